/-! An abstract heap (what the program's cells hold, by address; and the heap's size), and the rows of the walk over it. -/
abbrev zh_E : Type := (Nat × vp_A) ⊕ (Nat × List Value)
abbrev zh_T : Type := (Nat → Option zh_E) × Nat
abbrev zh_G : Type := va_G × (Nat → ClassId) × Nat
def zh_e (G : zh_G) (e : zh_E) : va_E := match e with
  | .inl x => .inl (G.2.1 x.1, x.2)
  | .inr o => .inr o
def zh_up (X : zh_T) (a : Nat) (e : zh_E) : zh_T := (fun q => if q = a then some e else X.1 q, X.2)
def zh_al (X : zh_T) (e : zh_E) : zh_T := (fun q => if q = X.2 then some e else X.1 q, X.2 + 1)
def zh_w (G : zh_G) (X : zh_T) (H : Heap) : Prop := (∀ (a : Nat) (e : zh_E), X.1 a = some e → G.2.2 ≤ a ∧ va_at G.1 classes (a, zh_e G e) H) ∧ H.size = X.2 ∧ G.2.2 ≤ X.2
def zh_k (G : zh_G) (U : State) : Prop := va_K G.1 classes (zh_tys G.2.1) U ∧ (∀ t ∈ nw_F, va_Nw (.fieldLinkNest t.1 t.2.1 t.2.2.1 t.2.2.2.1 t.2.2.2.2.1 t.2.2.2.2.2) U) ∧ (∀ t ∈ nw_M, va_Nw (.methodLinkNest t.1 t.2.1 t.2.2.1 t.2.2.2) U) ∧ ∀ C ∈ ao_L, va_AO C U
def zh_A (G : zh_G) : Nat → Prop := fun q => G.2.2 ≤ q
def zh_W (G : zh_G) (X : zh_T) (U : State) : Prop := zh_w G X U.heap ∧ zh_k G U
def zh_Q (G : zh_G) (rv : Option Value) (X : zh_T) : Array Value → State → Outcome → State → Prop := fun _ st oc t => (oc = .returned rv ∧ zh_W G X t) ∧ va_F (zh_A G) st t
def zM (l : Launch) (G : zh_G) (y : MethodName) (ws : List Cond) (fr lo : Nat) (X : zh_T) (av : List Value) (rv : Option Value) (X1 : zh_T) (mc ms : Nat) : Prop :=
  Met l y ws { frames := fr, cells := mc, slots := ms, locals := lo } (va_Pc av (zh_W G X)) (zh_Q G rv X1) mc ms (zh_A G)
theorem zh_k.moved {G : zh_G} {s U : State} (hW : s.WarmedH U.vm) (h : zh_k G s) : zh_k G U :=
  ⟨va_K.moved hW.alike h.1, fun t ht => va_Nw.warmF hW (h.2.1 t ht), fun t ht => va_Nw.warmM hW (h.2.2.1 t ht), fun C hC => va_AO.moved hW.alike (h.2.2.2 C hC)⟩
theorem zh_k.same {G : zh_G} {s U : State} (hv : s.vm = U.vm) (h : zh_k G s) : zh_k G U := zh_k.moved (by rw [← hv]; exact State.WarmedH.refl s) h
theorem zh_blind (G : zh_G) (X : zh_T) (av : List Value) : FrameBlind (va_Pc av (zh_W G X)) := fun a U g mk q => ⟨q.1, q.2.1, zh_k.same (s := U) rfl q.2.2⟩
theorem zh_end {G : zh_G} {X : zh_T} {s t : State} {H : Heap} {locs : List Loc} {rv : Option Value} {args : Array Value} (hk : zh_k G s) (hX : zh_w G X H) (hS : va_S (zh_A G) s.heap H locs) (ht : t.heap = H) (hW : s.WarmedH t.vm) : zh_Q G rv X args s (.returned rv) t :=
  ⟨⟨rfl, by rw [ht]; exact hX, zh_k.moved hW hk⟩, hS.F ht⟩
/-! the monad -/
def zb1 {α β : Type} (f : Option α) (g : α → Option β) : Option β := match f with
  | some a => g a
  | none => none
def zb2 {α β : Type} (f : Option (α × zh_T)) (g : α → zh_T → Option β) : Option β := match f with
  | some a => g a.1 a.2
  | none => none
def zbs {α β γ : Type} (f : Option (α ⊕ β)) (h : α → Option γ) (g : β → Option γ) : Option γ := match f with
  | some (.inl a) => h a
  | some (.inr b) => g b
  | none => none
def zbt {α β γ : Type} (f : Option ((α × zh_T) ⊕ (β × zh_T))) (h : α → zh_T → Option γ) (g : β → zh_T → Option γ) : Option γ := match f with
  | some (.inl a) => h a.1 a.2
  | some (.inr b) => g b.1 b.2
  | none => none
def zbo {β : Type} (q : Option Nat) (n : Option β) (g : Nat → Option β) : Option β := match q with
  | some a => g a
  | none => n
theorem zb1_s {α β : Type} {f : Option α} {g : α → Option β} {o : β} (h : zb1 f g = some o) : ∃ a, f = some a ∧ g a = some o := by
  cases f with
  | none => cases h
  | some a => exact ⟨a, rfl, h⟩
theorem zb2_s {α β : Type} {f : Option (α × zh_T)} {g : α → zh_T → Option β} {o : β} (h : zb2 f g = some o) : ∃ a X, f = some (a, X) ∧ g a X = some o := by
  cases f with
  | none => cases h
  | some a => exact ⟨a.1, a.2, rfl, h⟩
theorem zbs_s {α β γ : Type} {f : Option (α ⊕ β)} {h : α → Option γ} {g : β → Option γ} {o : γ} (e : zbs f h g = some o) : ∃ z, f = some z ∧ Sum.elim h g z = some o := by
  cases f with
  | none => cases e
  | some z => cases z with
    | inl a => exact ⟨_, rfl, e⟩
    | inr b => exact ⟨_, rfl, e⟩
def zel {α β γ : Type} (h : α → zh_T → Option γ) (g : β → zh_T → Option γ) (z : (α × zh_T) ⊕ (β × zh_T)) : Option γ := match z with
  | .inl a => h a.1 a.2
  | .inr b => g b.1 b.2
theorem zbt_s {α β γ : Type} {f : Option ((α × zh_T) ⊕ (β × zh_T))} {h : α → zh_T → Option γ} {g : β → zh_T → Option γ} {o : γ} (e : zbt f h g = some o) : ∃ z, f = some z ∧ zel h g z = some o := by
  cases f with
  | none => cases e
  | some z => cases z with
    | inl a => exact ⟨_, rfl, e⟩
    | inr b => exact ⟨_, rfl, e⟩
theorem zs_l {α β γ : Type} {h : α → Option γ} {g : β → Option γ} {a : α} {o : γ} (e : Sum.elim h g (Sum.inl a) = some o) : h a = some o := e
theorem zs_r {α β γ : Type} {h : α → Option γ} {g : β → Option γ} {b : β} {o : γ} (e : Sum.elim h g (Sum.inr b) = some o) : g b = some o := e
theorem zt_l {α β γ : Type} {h : α → zh_T → Option γ} {g : β → zh_T → Option γ} {a : α} {X : zh_T} {o : γ} (e : zel h g (Sum.inl (a, X)) = some o) : h a X = some o := e
theorem zt_r {α β γ : Type} {h : α → zh_T → Option γ} {g : β → zh_T → Option γ} {b : β} {X : zh_T} {o : γ} (e : zel h g (Sum.inr (b, X)) = some o) : g b X = some o := e
theorem zbo_n {β : Type} {n : Option β} {g : Nat → Option β} {o : β} (h : zbo none n g = some o) : n = some o := h
theorem zbo_s {β : Type} {n : Option β} {g : Nat → Option β} {o : β} {a : Nat} (h : zbo (some a) n g = some o) : g a = some o := h
theorem zs_p {α β : Type} {a a' : α} {b b' : β} (h : some (a, b) = some (a', b')) : a = a' ∧ b = b' := by
  cases h
  exact ⟨rfl, rfl⟩
theorem zi_t {α : Type} {c : Prop} [Decidable c] {a b : Option α} {o : α} (h : c) (e : (if c then a else b) = some o) : a = some o := by rwa [if_pos h] at e
theorem zi_f {α : Type} {c : Prop} [Decidable c] {a b : Option α} {o : α} (h : ¬ c) (e : (if c then a else b) = some o) : b = some o := by rwa [if_neg h] at e
theorem zi_or {α : Type} {c : Prop} [Decidable c] {a b : Option α} {o : α} (e : (if c then a else b) = some o) : (c ∧ a = some o) ∨ (¬ c ∧ b = some o) := by
  by_cases h : c
  · exact Or.inl ⟨h, zi_t h e⟩
  · exact Or.inr ⟨h, zi_f h e⟩
abbrev zi_rem (x y : Int32) : Int32 := x - x / y * y
abbrev zi_ushr (x y : Int32) : Int32 := (x.toUInt32 >>> (y.toUInt32 &&& Int32.toUInt32 31)).toInt32
def zbz (x : Int32) : Option Int32 := if x = 0 ∨ x = 1 then some x else none
theorem zbz_s {x y : Int32} (h : zbz x = some y) : x = y ∧ narrow .boolean (.int y) = .int y := by
  unfold zbz at h
  split at h
  · rename_i h1
    cases h
    rcases h1 with rfl | rfl
    · exact ⟨rfl, by decide⟩
    · exact ⟨rfl, by decide⟩
  · cases h
/-! the cells: a field, an element -/
def zg (X : zh_T) (a ci k : Nat) : Option Value := match X.1 a with
  | some (.inr o) => if o.1 = ci then o.2[k]? else none
  | _ => none
def zgi (X : zh_T) (a ci k : Nat) : Option Int32 := match zg X a ci k with
  | some (.int v) => some v
  | _ => none
def zgl (X : zh_T) (a ci k : Nat) : Option Int64 := match zg X a ci k with
  | some (.long v) => some v
  | _ => none
def zgr (X : zh_T) (a ci k : Nat) : Option Nat := match zg X a ci k with
  | some (.ref v) => some v
  | _ => none
def zgq (X : zh_T) (a ci k : Nat) : Option (Option Nat) := match zg X a ci k with
  | some (.ref v) => some (some v)
  | some .null => some none
  | _ => none
def zck (X : zh_T) (a ci : Nat) : Option Unit := match X.1 a with
  | some (.inr o) => if o.1 = ci then some () else none
  | _ => none
def zp (X : zh_T) (a ci k : Nat) (v : Value) : Option zh_T := match X.1 a with
  | some (.inr o) => if o.1 = ci ∧ k < o.2.length then some (zh_up X a (.inr (o.1, o.2.set k v))) else none
  | _ => none
def zpz (X : zh_T) (a ci k : Nat) (v : Int32) : Option zh_T := if v = 0 ∨ v = 1 then zp X a ci k (.int v) else none
def zai (X : zh_T) (a : Nat) (i : Int32) : Option Int32 := match X.1 a with
  | some (.inl (0, n, .inl f)) => if i < 0 ∨ n ≤ i.toNatClampNeg then none else some (f i.toNatClampNeg)
  | _ => none
def zaz (X : zh_T) (a : Nat) (i : Int32) : Option Int32 := match X.1 a with
  | some (.inl (1, n, .inl f)) => if i < 0 ∨ n ≤ i.toNatClampNeg then none else some (f i.toNatClampNeg)
  | _ => none
def zsi (X : zh_T) (a : Nat) (i x : Int32) : Option zh_T := match X.1 a with
  | some (.inl (0, n, .inl f)) => if i < 0 ∨ n ≤ i.toNatClampNeg then none else some (zh_up X a (.inl (0, n, .inl (upd f i.toNatClampNeg x))))
  | _ => none
def zsz (X : zh_T) (a : Nat) (i x : Int32) : Option zh_T := match X.1 a with
  | some (.inl (1, n, .inl f)) => if i < 0 ∨ n ≤ i.toNatClampNeg ∨ ¬ (x = 0 ∨ x = 1) then none else some (zh_up X a (.inl (1, n, .inl (upd f i.toNatClampNeg x))))
  | _ => none
def zaq (X : zh_T) (t a : Nat) (i : Int32) : Option (Option Nat) := match X.1 a with
  | some (.inl (u, n, .inr (.inr (.inr (.inr f))))) => if u ≠ t ∨ i < 0 ∨ n ≤ i.toNatClampNeg then none else some (f i.toNatClampNeg)
  | _ => none
def zar (X : zh_T) (t a : Nat) (i : Int32) : Option Nat := zb1 (zaq X t a i) fun q => q
def zsr (X : zh_T) (t ci a : Nat) (i : Int32) (v : Nat) : Option zh_T := zb1 (zck X v ci) fun _ => match X.1 a with
  | some (.inl (u, n, .inr (.inr (.inr (.inr f))))) => if u ≠ t ∨ i < 0 ∨ n ≤ i.toNatClampNeg then none else some (zh_up X a (.inl (u, n, .inr (.inr (.inr (.inr (va_up f i.toNatClampNeg (some v))))))))
  | _ => none
def zln (X : zh_T) (t a : Nat) : Option Int32 := match X.1 a with
  | some (.inl x) => if x.1 = t then some (Int32.ofNat x.2.1) else none
  | _ => none
def znw (X : zh_T) (ci : Nat) (fs : List Value) : Option (Nat × zh_T) := some (X.2, zh_al X (.inr (ci, fs)))
def zna (X : zh_T) (t n : Nat) : Option (Nat × zh_T) := some (X.2, zh_al X (.inl (t, n, .inl (fun _ => 0))))
def znq (X : zh_T) (t n : Nat) : Option (Nat × zh_T) := some (X.2, zh_al X (.inl (t, n, .inr (.inr (.inr (.inr (fun _ => none)))))))
theorem zg_s {X : zh_T} {a ci k : Nat} {v : Value} (h : zg X a ci k = some v) : ∃ fs, X.1 a = some (.inr (ci, fs)) ∧ fs[k]? = some v := by
  unfold zg at h
  split at h
  · rename_i o ho
    split at h
    · rename_i hc
      exact ⟨o.2, by rw [ho, ← hc], h⟩
    · cases h
  · cases h
theorem zgi_v {X : zh_T} {a ci k : Nat} {x : Int32} (h : zgi X a ci k = some x) : zg X a ci k = some (.int x) := by
  unfold zgi at h
  split at h
  · rename_i v hv
    cases h
    exact hv
  · cases h
theorem zgl_v {X : zh_T} {a ci k : Nat} {x : Int64} (h : zgl X a ci k = some x) : zg X a ci k = some (.long x) := by
  unfold zgl at h
  split at h
  · rename_i v hv
    cases h
    exact hv
  · cases h
theorem zgr_v {X : zh_T} {a ci k : Nat} {x : Nat} (h : zgr X a ci k = some x) : zg X a ci k = some (.ref x) := by
  unfold zgr at h
  split at h
  · rename_i v hv
    cases h
    exact hv
  · cases h
theorem zgq_v {X : zh_T} {a ci k : Nat} {x : Option Nat} (h : zgq X a ci k = some x) : zg X a ci k = some (va_rf x) := by
  unfold zgq at h
  split at h
  · rename_i v hv
    cases h
    exact hv
  · rename_i hv
    cases h
    exact hv
  · cases h
theorem zck_s {X : zh_T} {a ci : Nat} {u : Unit} (h : zck X a ci = some u) : ∃ fs, X.1 a = some (.inr (ci, fs)) := by
  unfold zck at h
  split at h
  · rename_i o ho
    split at h
    · rename_i hc
      exact ⟨o.2, by rw [ho, ← hc]⟩
    · cases h
  · cases h
theorem zp_s {X X1 : zh_T} {a ci k : Nat} {v : Value} (h : zp X a ci k v = some X1) : ∃ fs, X.1 a = some (.inr (ci, fs)) ∧ k < fs.length ∧ X1 = zh_up X a (.inr (ci, fs.set k v)) := by
  unfold zp at h
  split at h
  · rename_i o ho
    split at h
    · rename_i hc
      cases h
      exact ⟨o.2, by rw [ho, ← hc.1], hc.2, by rw [← hc.1]⟩
    · cases h
  · cases h
theorem zpz_v {X X1 : zh_T} {a ci k : Nat} {v : Int32} (h : zpz X a ci k v = some X1) : zp X a ci k (.int v) = some X1 := by
  unfold zpz at h
  split at h
  · exact h
  · cases h
theorem zpz_01 {X X1 : zh_T} {a ci k : Nat} {v : Int32} (h : zpz X a ci k v = some X1) : v = 0 ∨ v = 1 := by
  unfold zpz at h
  split at h
  · assumption
  · cases h
theorem zpz_n {X X1 : zh_T} {a ci k : Nat} {v : Int32} (h : zpz X a ci k v = some X1) : narrow .boolean (.int v) = .int v := by
  rcases zpz_01 h with rfl | rfl <;> decide
theorem zpz_f {X X1 : zh_T} {a ci k : Nat} {v : Int32} (h : zpz X a ci k v = some X1) : fits .boolean (.int v) = true := by
  rcases zpz_01 h with rfl | rfl <;> decide
theorem zai_s {X : zh_T} {a : Nat} {i v : Int32} (h : zai X a i = some v) : ∃ n f, X.1 a = some (.inl (0, n, .inl f)) ∧ vp_in i n ∧ v = f i.toNatClampNeg := by
  unfold zai at h
  split at h
  · rename_i n f ho
    split at h
    · cases h
    · rename_i hc
      cases h
      exact ⟨n, f, ho, hc, rfl⟩
  · cases h
theorem zaz_s {X : zh_T} {a : Nat} {i v : Int32} (h : zaz X a i = some v) : ∃ n f, X.1 a = some (.inl (1, n, .inl f)) ∧ vp_in i n ∧ v = f i.toNatClampNeg := by
  unfold zaz at h
  split at h
  · rename_i n f ho
    split at h
    · cases h
    · rename_i hc
      cases h
      exact ⟨n, f, ho, hc, rfl⟩
  · cases h
theorem zsi_s {X X1 : zh_T} {a : Nat} {i x : Int32} (h : zsi X a i x = some X1) : ∃ n f, X.1 a = some (.inl (0, n, .inl f)) ∧ vp_in i n ∧ X1 = zh_up X a (.inl (0, n, .inl (upd f i.toNatClampNeg x))) := by
  unfold zsi at h
  split at h
  · rename_i n f ho
    split at h
    · cases h
    · rename_i hc
      cases h
      exact ⟨n, f, ho, hc, rfl⟩
  · cases h
theorem zsz_s {X X1 : zh_T} {a : Nat} {i x : Int32} (h : zsz X a i x = some X1) : ∃ n f, X.1 a = some (.inl (1, n, .inl f)) ∧ vp_in i n ∧ (x = 0 ∨ x = 1) ∧ X1 = zh_up X a (.inl (1, n, .inl (upd f i.toNatClampNeg x))) := by
  unfold zsz at h
  split at h
  · rename_i n f ho
    split at h
    · cases h
    · rename_i hc
      cases h
      exact ⟨n, f, ho, fun q => hc (q.elim Or.inl fun z => Or.inr (Or.inl z)), Classical.not_not.mp fun q => hc (Or.inr (Or.inr q)), rfl⟩
  · cases h
theorem zaq_s {X : zh_T} {t a : Nat} {i : Int32} {q : Option Nat} (h : zaq X t a i = some q) : ∃ n f, X.1 a = some (.inl (t, n, .inr (.inr (.inr (.inr f))))) ∧ vp_in i n ∧ q = f i.toNatClampNeg := by
  unfold zaq at h
  split at h
  · rename_i u n f ho
    split at h
    · cases h
    · rename_i hc
      cases h
      have hu : u = t := Classical.not_not.mp fun z => hc (Or.inl z)
      subst hu
      exact ⟨n, f, ho, fun z => hc (Or.inr z), rfl⟩
  · cases h
theorem zar_v {X : zh_T} {t a : Nat} {i : Int32} {b : Nat} (h : zar X t a i = some b) : zaq X t a i = some (some b) := by
  unfold zar at h
  obtain ⟨q, h1, h2⟩ := zb1_s h
  rw [h1, h2]
theorem zsr_s {X X1 : zh_T} {t ci a : Nat} {i : Int32} {v : Nat} (h : zsr X t ci a i v = some X1) : ∃ n f vs, X.1 a = some (.inl (t, n, .inr (.inr (.inr (.inr f))))) ∧ vp_in i n ∧ X.1 v = some (.inr (ci, vs)) ∧ X1 = zh_up X a (.inl (t, n, .inr (.inr (.inr (.inr (va_up f i.toNatClampNeg (some v))))))) := by
  unfold zsr at h
  obtain ⟨u0, h1, h⟩ := zb1_s h
  obtain ⟨vs, hv⟩ := zck_s h1
  split at h
  · rename_i u n f ho
    split at h
    · cases h
    · rename_i hc
      cases h
      have hu : u = t := Classical.not_not.mp fun z => hc (Or.inl z)
      subst hu
      exact ⟨n, f, vs, ho, fun z => hc (Or.inr z), hv, rfl⟩
  · cases h
theorem zln_s {X : zh_T} {t a : Nat} {v : Int32} (h : zln X t a = some v) : ∃ x : vp_A, X.1 a = some (.inl (t, x)) ∧ Int32.ofNat x.1 = v := by
  unfold zln at h
  split at h
  · rename_i x ho
    split at h
    · rename_i hc
      cases h
      exact ⟨x.2, by rw [ho, ← hc], rfl⟩
    · cases h
  · cases h

section ZROWS
variable {p : Program} {l : Launch} {e : Env} {R : Room} {s : State} {m : MethodId} {args : Array Value} {below : List Frame} {meth : Method} {c : Code} {H : Heap} {locs : List Loc} {cells slots : Nat} {Q : State → Prop}
variable {cc : ByteArray} {pc : Nat} {ls : Array Slot} {rest : List Value} {G : zh_G} {X X1 : zh_T} {a : Nat} {H0 : Heap} {Ts : List Cond}
theorem zh_one (h : zh_w G X H) {x : zh_E} (he : X.1 a = some x) : va_P G.1 classes [(a, zh_e G x)] H := by
  intro k q hk
  match k, hk with
  | 0, hk =>
    cases hk
    exact (h.1 a x he).2
  | k + 1, hk => cases hk
/-- one cell has changed -/
theorem zh_set (h : zh_w G X H) {x y : zh_E} (he : X.1 a = some x) {H1 : Heap} (hy : va_at G.1 classes (a, zh_e G y) H1) (hz : H1.size = H.size) (ho : ∀ q : Nat, q ≠ a → H1[q]? = H[q]?) : zh_w G (zh_up X a y) H1 := by
  refine ⟨fun b z hb => ?_, hz.trans h.2.1, h.2.2⟩
  unfold zh_up at hb
  dsimp only at hb
  split at hb
  · rename_i hba
    cases hb
    subst hba
    exact ⟨(h.1 _ _ he).1, hy⟩
  · rename_i hba
    exact ⟨(h.1 b z hb).1, (h.1 b z hb).2.kept (ho b hba)⟩
/-- one cell is new -/
theorem zh_new (h : zh_w G X H) {y : zh_E} {H1 : Heap} (hy : va_at G.1 classes (H.size, zh_e G y) H1) (hz : H1.size = H.size + 1) (ho : ∀ q : Nat, q < H.size → H1[q]? = H[q]?) : zh_w G (zh_al X y) H1 := by
  refine ⟨fun b z hb => ?_, by rw [hz, h.2.1]; rfl, Nat.le_succ_of_le h.2.2⟩
  unfold zh_al at hb
  dsimp only at hb
  split at hb
  · rename_i hba
    cases hb
    subst hba
    exact ⟨h.2.2, by rw [← h.2.1]; exact hy⟩
  · exact ⟨(h.1 b z hb).1, (h.1 b z hb).2.kept (ho b (h.1 b z hb).2.lt)⟩
theorem zh_lt (h : zh_w G X H) {x : zh_E} (he : X.1 a = some x) : zh_A G a := (h.1 a x he).1
theorem zr_get {own C : String} {T : u_T} {N ci index : Nat} {v : Value} (hx : p.tables.exec = Jvm.exec) (hb : c.code = cc) (hts : ∀ w ∈ Ts, w.before args s = true) (hin : ∀ w ∈ u_ws C T N, w ∈ Ts) (hown : s.vm.findClass own = some m.cls) (hk : zh_k G s) (hX : zh_w G X H) (hc : classes[ci]? = some (C, T, N)) (k : Nat) (hN : k < N) (hlink : (Cond.fieldLink own index C (T k).2.1 (T k).2.2.1).before args s = true) (hs : (T k).1 = C) (hv : zg X a ci k = some v) (hdg : decode cc pc = .ok (.getfield index, 3))
    (kk : W p l e R s m args below meth c H locs cells slots Q (F0 m (pc + 3) ls (v :: rest))) : W p l e R s m args below meth c H locs cells slots Q (F0 m pc ls (.ref a :: rest)) := by
  obtain ⟨fs, h1, h2⟩ := zg_s hv
  exact va_get hx hb hts hin hown hk.1 (zh_one hX h1) 0 rfl hc k hN hlink (fun x h => by rw [hs] at h; exact h) h2 hdg kk
theorem zr_getN {own C host : String} {T : u_T} {N ci index : Nat} {v : Value} (hx : p.tables.exec = Jvm.exec) (hb : c.code = cc) (hts : ∀ w ∈ Ts, w.before args s = true) (hin : ∀ w ∈ u_ws C T N, w ∈ Ts) (hown : s.vm.findClass own = some m.cls) (hk : zh_k G s) (hX : zh_w G X H) (hc : classes[ci]? = some (C, T, N)) (k : Nat) (hN : k < N) {fn fd : String} (hfn : (T k).2.1 = fn) (hfd : (T k).2.2.1 = fd) (hlink : va_Nw (.fieldLinkNest own index C fn fd host) s) (hs : (T k).1 = C) (hv : zg X a ci k = some v) (hdg : decode cc pc = .ok (.getfield index, 3))
    (kk : W p l e R s m args below meth c H locs cells slots Q (F0 m (pc + 3) ls (v :: rest))) : W p l e R s m args below meth c H locs cells slots Q (F0 m pc ls (.ref a :: rest)) := by
  subst hfn
  subst hfd
  obtain ⟨fs, h1, h2⟩ := zg_s hv
  exact va_getN hx hb hts hin hown hk.1 (zh_one hX h1) 0 rfl hc k hN (va_Nw.use rfl hlink) (fun x h => by rw [hs] at h; exact h) h2 hdg kk
/-- a field of an object of the world: where it lies, and what a write to it makes of the world -/
theorem zh_fld {C : String} {T : u_T} {N ci : Nat} (hts : ∀ w ∈ Ts, w.before args s = true) (hin : ∀ w ∈ u_ws C T N, w ∈ Ts) (ty0 : Nat → FieldType) (hty : ∀ k, k < N → parseFieldDescriptor (T k).2.2.1 = some (ty0 k)) (hnm : ∀ a, a < N → ∀ b, b < N → a ≠ b → (T a).2.1 ≠ (T b).2.1) (hk : zh_k G s) (hX : zh_w G X H) (hc : classes[ci]? = some (C, T, N)) {k : Nat} (hN : k < N) {fs : List Value} (h1 : X.1 a = some (.inr (ci, fs))) (hl : k < fs.length) :
    ∃ (cell : Cell) (cf : Nat) (kf : Class) (fi : Nat) (f : Field) (kC : Class), H[a]? = some cell ∧ cell.vm = .none ∧ f.slot < cell.slots.size ∧ s.fieldFound? (T k).1 (T k).2.1 (T k).2.2.1 = some (cf, kf, fi, f) ∧ f.isStatic = false ∧ s.vm.findClass C = some cell.cls ∧ s.vm.classes[cell.cls]? = some kC ∧ kC.kind = .ordinary ∧
      ∀ (v : Value) (H' : Heap), H'[a]? = some (cell.setSlot f.slot v) → H'.size = H.size → (∀ q : Nat, q ≠ a → H'[q]? = H[q]?) → zh_w G (zh_up X a (.inr (ci, fs.set k v))) H' := by
  obtain ⟨r, hr1, cell, q1, q2, q3, q4⟩ := (hX.1 a _ h1).2
  cases hr1.symm.trans hc
  obtain ⟨hSl, hfc, kC, hkC, hkind⟩ := hk.1.1 ci _ hc
  obtain ⟨cf, kf, fi, f, hi, hsl⟩ := hSl k hN
  refine ⟨cell, cf, kf, fi, f, kC, q1, q3, by rw [hsl]; exact k2_hasslot (q4 k hN), hi, (u_facts hfc hkC (u_lays hts hin hN) hi).1, by rw [q2]; exact hfc, by rw [q2]; exact hkC, hkind, fun v H' e1 e2 e3 => ?_⟩
  rw [hsl] at e1
  exact zh_set hX h1 ⟨_, hc, t_OB.to (V := updV (vp_V fs) k v) ⟨_, e1, q2, q3, t_set q4 (va_apart (own := C) hts hin ty0 hty hnm hk.1 hc) hN v⟩ (fun j _ => vp_updV_set hl v j)⟩ e2 e3
theorem zr_put {own C : String} {T : u_T} {N ci index : Nat} {ty : FieldType} {v : Value} (hx : p.tables.exec = Jvm.exec) (hb : c.code = cc) (hts : ∀ w ∈ Ts, w.before args s = true) (hin : ∀ w ∈ u_ws C T N, w ∈ Ts) (ty0 : Nat → FieldType) (hty : ∀ k, k < N → parseFieldDescriptor (T k).2.2.1 = some (ty0 k)) (hnm : ∀ a, a < N → ∀ b, b < N → a ≠ b → (T a).2.1 ≠ (T b).2.1) (hown : s.vm.findClass own = some m.cls) (hk : zh_k G s) (hX : zh_w G X H) (hS : va_S (zh_A G) H0 H locs) (hc : classes[ci]? = some (C, T, N)) (k : Nat) (hN : k < N) (hlink : (Cond.fieldLink own index C (T k).2.1 (T k).2.2.1).before args s = true) (hs : (T k).1 = C) (hfin : (T k).2.2.2 = false) (hd : parseFieldDescriptor (T k).2.2.1 = some ty) (hn : narrow ty v = v) (hfit : fits ty v = true) (hp : zp X a ci k v = some X1) (hdg : decode cc pc = .ok (.putfield index, 3))
    (kk : ∀ (H1 : Heap) (locs1 : List Loc), zh_w G X1 H1 → va_S (zh_A G) H0 H1 locs1 → W p l e R s m args below meth c H1 locs1 cells slots Q (F0 m (pc + 3) ls rest)) : W p l e R s m args below meth c H locs cells slots Q (F0 m pc ls (v :: .ref a :: rest)) := by
  obtain ⟨fs, h1, hl, rfl⟩ := zp_s hp
  obtain ⟨cell, cf, kf, fi, f, kC, q1, q3, q5, hi, hst, hfc, hkC, hkind, hw⟩ := zh_fld hts hin ty0 hty hnm hk hX hc hN h1 hl
  have hlay := hts _ (hin _ (u_in_lay hN))
  rw [u_lay, if_neg (by rw [hfin]; decide)] at hlay
  refine W.putK hx hb (f := f) ⟨hown, hlink, ⟨_, _, _, by rw [hs] at hi; exact hi⟩, hst⟩ (u_store hfc hkC hkind hlay hi hd hn hfit) q1 q3 q5 rfl rfl hdg fun H' e1 e2 e3 => ?_
  exact kk H' _ (hw v H' e1 e2 e3) (hS.put e2 e3 (zh_lt hX h1))
theorem zr_putN {own C host : String} {T : u_T} {N ci index : Nat} {ty : FieldType} {v : Value} (hx : p.tables.exec = Jvm.exec) (hb : c.code = cc) (hts : ∀ w ∈ Ts, w.before args s = true) (hin : ∀ w ∈ u_ws C T N, w ∈ Ts) (ty0 : Nat → FieldType) (hty : ∀ k, k < N → parseFieldDescriptor (T k).2.2.1 = some (ty0 k)) (hnm : ∀ a, a < N → ∀ b, b < N → a ≠ b → (T a).2.1 ≠ (T b).2.1) (hown : s.vm.findClass own = some m.cls) (hk : zh_k G s) (hX : zh_w G X H) (hS : va_S (zh_A G) H0 H locs) (hc : classes[ci]? = some (C, T, N)) (k : Nat) (hN : k < N) {fn fd : String} (hfn : (T k).2.1 = fn) (hfd : (T k).2.2.1 = fd) (hlink : va_Nw (.fieldLinkNest own index C fn fd host) s) (hs : (T k).1 = C) (hfin : (T k).2.2.2 = false) (hd : parseFieldDescriptor (T k).2.2.1 = some ty) (hn : narrow ty v = v) (hfit : fits ty v = true) (hp : zp X a ci k v = some X1) (hdg : decode cc pc = .ok (.putfield index, 3))
    (kk : ∀ (H1 : Heap) (locs1 : List Loc), zh_w G X1 H1 → va_S (zh_A G) H0 H1 locs1 → W p l e R s m args below meth c H1 locs1 cells slots Q (F0 m (pc + 3) ls rest)) : W p l e R s m args below meth c H locs cells slots Q (F0 m pc ls (v :: .ref a :: rest)) := by
  subst hfn
  subst hfd
  obtain ⟨fs, h1, hl, rfl⟩ := zp_s hp
  obtain ⟨cell, cf, kf, fi, f, kC, q1, q3, q5, hi, hst, hfc, hkC, hkind, hw⟩ := zh_fld hts hin ty0 hty hnm hk hX hc hN h1 hl
  have hlay := hts _ (hin _ (u_in_lay hN))
  rw [u_lay, if_neg (by rw [hfin]; decide)] at hlay
  refine va_WputK hx hb (f := f) hown (va_Nw.use rfl hlink) (by rw [hs] at hi; exact hi) hst (u_store hfc hkC hkind hlay hi hd hn hfit) q1 q3 q5 rfl rfl hdg fun H' e1 e2 e3 => ?_
  exact kk H' _ (hw v H' e1 e2 e3) (hS.put e2 e3 (zh_lt hX h1))
theorem zr_putF {own C : String} {T : u_T} {N ci index : Nat} {ty : FieldType} {v : Value} (hx : p.tables.exec = Jvm.exec) (hb : c.code = cc) (hts : ∀ w ∈ Ts, w.before args s = true) (hin : ∀ w ∈ u_ws C T N, w ∈ Ts) (ty0 : Nat → FieldType) (hty : ∀ k, k < N → parseFieldDescriptor (T k).2.2.1 = some (ty0 k)) (hnm : ∀ a, a < N → ∀ b, b < N → a ≠ b → (T a).2.1 ≠ (T b).2.1) (hown : s.vm.findClass own = some m.cls) (hk : zh_k G s) (hX : zh_w G X H) (hS : va_S (zh_A G) H0 H locs) (hc : classes[ci]? = some (C, T, N)) (k : Nat) (hN : k < N) (hlink : (Cond.fieldLink own index C (T k).2.1 (T k).2.2.1).before args s = true) (hs : (T k).1 = C) (hfin : (T k).2.2.2 = true) (hin2 : meth.name = "<init>") (hdecl : (T k).1 = own) (hd : parseFieldDescriptor (T k).2.2.1 = some ty) (hn : narrow ty v = v) (hfit : fits ty v = true) (hp : zp X a ci k v = some X1) (hdg : decode cc pc = .ok (.putfield index, 3))
    (kk : ∀ (H1 : Heap) (locs1 : List Loc), zh_w G X1 H1 → va_S (zh_A G) H0 H1 locs1 → W p l e R s m args below meth c H1 locs1 cells slots Q (F0 m (pc + 3) ls rest)) : W p l e R s m args below meth c H locs cells slots Q (F0 m pc ls (v :: .ref a :: rest)) := by
  obtain ⟨fs, h1, hl, rfl⟩ := zp_s hp
  obtain ⟨cell, cf, kf, fi, f, kC, q1, q3, q5, hi, hst, hfc, hkC, hkind, hw⟩ := zh_fld hts hin ty0 hty hnm hk hX hc hN h1 hl
  have hlay := hts _ (hin _ (u_in_lay hN))
  rw [u_lay, if_pos hfin] at hlay
  have hcf : m.cls = cf := by
    obtain ⟨_, _, c', _, _, _, -, -, hf', -, -, -, hown2, -⟩ := Cond.laysFinal_spec hlay
    cases hi.symm.trans hf'
    rw [hdecl] at hown2
    exact Option.some.inj (hown.symm.trans hown2)
  refine W.putFinK hx hb hown hlink (by rw [hs] at hi; exact hi) hst hcf hin2 (u_fits hfc hkC hkind (Or.inr hlay) hi hd hn hfit) q1 q3 q5 rfl rfl hdg fun H' e1 e2 e3 => ?_
  exact kk H' _ (hw v H' e1 e2 e3) (hS.put e2 e3 (zh_lt hX h1))
theorem zr_iaload {i v : Int32} (hx : p.tables.exec = Jvm.exec) (hb : c.code = cc) (hk : zh_k G s) (hX : zh_w G X H) (hv : zai X a i = some v) (hdg : decode cc pc = .ok (.iaload, 1))
    (kk : W p l e R s m args below meth c H locs cells slots Q (F0 m (pc + 1) ls (.int v :: rest))) : W p l e R s m args below meth c H locs cells slots Q (F0 m pc ls (.int i :: .ref a :: rest)) := by
  obtain ⟨n, f, h1, h2, rfl⟩ := zai_s hv
  exact va_iald hx hb hk.1 (zh_one hX h1) 0 0 rfl rfl h2 hdg kk
theorem zr_baload {i v : Int32} (hx : p.tables.exec = Jvm.exec) (hb : c.code = cc) (hk : zh_k G s) (hX : zh_w G X H) (hv : zaz X a i = some v) (hdg : decode cc pc = .ok (.baload, 1))
    (kk : W p l e R s m args below meth c H locs cells slots Q (F0 m (pc + 1) ls (.int v :: rest))) : W p l e R s m args below meth c H locs cells slots Q (F0 m pc ls (.int i :: .ref a :: rest)) := by
  obtain ⟨n, f, h1, h2, rfl⟩ := zaz_s hv
  exact va_zald hx hb hk.1 (zh_one hX h1) 0 1 rfl rfl h2 hdg kk
theorem zr_iastore {i x : Int32} (hx : p.tables.exec = Jvm.exec) (hb : c.code = cc) (hk : zh_k G s) (hX : zh_w G X H) (hS : va_S (zh_A G) H0 H locs) (hv : zsi X a i x = some X1) (hdg : decode cc pc = .ok (.iastore, 1))
    (kk : ∀ (H1 : Heap) (locs1 : List Loc), zh_w G X1 H1 → va_S (zh_A G) H0 H1 locs1 → W p l e R s m args below meth c H1 locs1 cells slots Q (F0 m (pc + 1) ls rest)) : W p l e R s m args below meth c H locs cells slots Q (F0 m pc ls (.int x :: .int i :: .ref a :: rest)) := by
  obtain ⟨n, f, h1, h2, rfl⟩ := zsi_s hv
  refine W.iast hx hb (hX.1 a _ h1).2 ((hk.1.2 0 _ rfl).1 n (fun j => .int (f j))) (fun q => by cases q) (by show ¬ (i < 0 ∨ (arrV _ _ _).slots.size ≤ _); rw [arrV_size]; exact h2) rfl rfl hdg fun H1 e1 z oq => ?_
  refine kk H1 _ (zh_set hX h1 ?_ z oq) (hS.put z oq (zh_lt hX h1))
  show H1[a]? = some (vp_cell _ _)
  rw [e1]
  show some ((vp_cell _ _).setSlot _ _) = some (vp_cell _ _)
  rw [vp_cell_i, vp_cell_i, arrV_store]
  congr 2
  funext q
  by_cases hq : q = i.toNatClampNeg
  · subst hq
    simp [updV, upd]
  · simp [updV, upd, hq]
theorem zr_bastore {i x : Int32} (hx : p.tables.exec = Jvm.exec) (hb : c.code = cc) (hk : zh_k G s) (hX : zh_w G X H) (hS : va_S (zh_A G) H0 H locs) (hv : zsz X a i x = some X1) (hdg : decode cc pc = .ok (.bastore, 1))
    (kk : ∀ (H1 : Heap) (locs1 : List Loc), zh_w G X1 H1 → va_S (zh_A G) H0 H1 locs1 → W p l e R s m args below meth c H1 locs1 cells slots Q (F0 m (pc + 1) ls rest)) : W p l e R s m args below meth c H locs cells slots Q (F0 m pc ls (.int x :: .int i :: .ref a :: rest)) := by
  obtain ⟨n, f, h1, h2, h3, rfl⟩ := zsz_s hv
  have h4 : narrow .boolean (.int x) = .int x := by rcases h3 with rfl | rfl <;> decide
  refine W.zast hx hb (hX.1 a _ h1).2 ((hk.1.2 1 _ rfl).1 n (fun j => .int (f j))) (fun q => by cases q) (by show ¬ (i < 0 ∨ (arrV _ _ _).slots.size ≤ _); rw [arrV_size]; exact h2) rfl rfl hdg fun H1 e1 z oq => ?_
  refine kk H1 _ (zh_set hX h1 ?_ z oq) (hS.put z oq (zh_lt hX h1))
  show H1[a]? = some (vp_cell _ _)
  rw [e1, h4]
  show some ((vp_cell _ _).setSlot _ _) = some (vp_cell _ _)
  rw [vp_cell_i, vp_cell_i, arrV_store]
  congr 2
  funext q
  by_cases hq : q = i.toNatClampNeg
  · subst hq
    simp [updV, upd]
  · simp [updV, upd, hq]
theorem zr_aaload {t : Nat} {C : String} {i : Int32} {q : Option Nat} (hx : p.tables.exec = Jvm.exec) (hb : c.code = cc) (hk : zh_k G s) (hX : zh_w G X H) (ht : (zh_tys G.2.1)[t]? = some (G.2.1 t, .object C)) (hv : zaq X t a i = some q) (hdg : decode cc pc = .ok (.aaload, 1))
    (kk : W p l e R s m args below meth c H locs cells slots Q (F0 m (pc + 1) ls (va_rf q :: rest))) : W p l e R s m args below meth c H locs cells slots Q (F0 m pc ls (.int i :: .ref a :: rest)) := by
  obtain ⟨n, f, h1, h2, rfl⟩ := zaq_s hv
  exact va_aldq hx hb hk.1 (zh_one hX h1) 0 t rfl ht h2 hdg kk
theorem zr_aastore {t ci : Nat} {r : vw_C} {i : Int32} {v : Nat} (hx : p.tables.exec = Jvm.exec) (hb : c.code = cc) (hk : zh_k G s) (hX : zh_w G X H) (hS : va_S (zh_A G) H0 H locs) (hc : classes[ci]? = some r) (ht : (zh_tys G.2.1)[t]? = some (G.2.1 t, .object r.1)) (hv : zsr X t ci a i v = some X1) (hdg : decode cc pc = .ok (.aastore, 1))
    (kk : ∀ (H1 : Heap) (locs1 : List Loc), zh_w G X1 H1 → va_S (zh_A G) H0 H1 locs1 → W p l e R s m args below meth c H1 locs1 cells slots Q (F0 m (pc + 1) ls rest)) : W p l e R s m args below meth c H locs cells slots Q (F0 m pc ls (.ref v :: .int i :: .ref a :: rest)) := by
  obtain ⟨n, f, vs, h1, h2, h3, rfl⟩ := zsr_s hv
  have hlt : i.toNatClampNeg < n := Nat.not_le.mp fun q => h2 (Or.inr q)
  have h0 : ¬ i < 0 := fun q => h2 (Or.inl q)
  obtain ⟨r', hr', cellV, g1, g2, g3, -⟩ := (hX.1 v _ h3).2
  have hcls := (hk.1.1 ci r hc).2
  obtain ⟨kA, comp, k1, k2, k3, -⟩ := (hk.1.2 t _ ht).2
  have hcomp : comp = G.1.1 ci := Option.some.inj (k3.symm.trans hcls.1)
  subst hcomp
  obtain ⟨kC, hkC, -⟩ := hcls.2
  refine W.aast hx hb (hX.1 a _ h1).2 (fun q h => by cases h) (fun h => by cases h) k1 k2 rfl hkC ⟨h0, by show _ < (arrV _ _ _).slots.size; rw [arrV_size]; exact hlt⟩ g1 (fun q h => by rw [g3] at h; cases h) (by rw [g2]; exact hkC) (by rw [g2]; exact va_assign hcls) rfl rfl hdg fun H1 e1 z oq => ?_
  refine kk H1 _ (zh_set hX h1 ?_ z oq) (hS.put z oq (zh_lt hX h1))
  show H1[a]? = some (vp_cell _ _)
  rw [e1]
  show some ((vp_cell _ _).setSlot _ _) = some (vp_cell _ _)
  rw [vp_cell_q, vp_cell_q, arrV_store]
  congr 2
  funext q
  by_cases hq : q = i.toNatClampNeg
  · subst hq
    simp [updV, va_up, va_rf]
  · simp [updV, va_up, hq]
theorem zr_alen {t : Nat} {ty : FieldType} {v : Int32} (hx : p.tables.exec = Jvm.exec) (hb : c.code = cc) (hk : zh_k G s) (hX : zh_w G X H) (ht : (zh_tys G.2.1)[t]? = some (G.2.1 t, ty)) (hv : zln X t a = some v) (hdg : decode cc pc = .ok (.arraylength, 1))
    (kk : W p l e R s m args below meth c H locs cells slots Q (F0 m (pc + 1) ls (.int v :: rest))) : W p l e R s m args below meth c H locs cells slots Q (F0 m pc ls (.ref a :: rest)) := by
  obtain ⟨x, h1, h2⟩ := zln_s hv
  exact va_alen hx hb hk.1 (zh_one hX h1) 0 t rfl ht h2 hdg kk
theorem zr_new {own C : String} {T : u_T} {N ci index : Nat} {fs : List Value} (hx : p.tables.exec = Jvm.exec) (hb : c.code = cc) (hts : ∀ w ∈ Ts, w.before args s = true) (hin : ∀ w ∈ u_ws C T N, w ∈ Ts) (ty : Nat → FieldType) (hty : ∀ k, k < N → parseFieldDescriptor (T k).2.2.1 = some (ty k)) (hown : s.vm.findClass own = some m.cls) (hcl : (Cond.classLink own index C).before args s = true) (hinst : (Cond.instantiable C N).before args s = true) (hini : (Cond.initialized C).before args s = true)
    (hk : zh_k G s) (hX : zh_w G X H) (hS : va_S (zh_A G) H0 H locs) (hc : classes[ci]? = some (C, T, N)) (hn : znw X ci fs = some (a, X1)) (hfs : ∀ j, j < N → defaultValue (ty j) = vp_V fs j) (hcells : cells + 1 ≤ R.cells) (hslots : slots + N ≤ R.slots) (hdg : decode cc pc = .ok (.new index, 3))
    (kk : ∀ H1 : Heap, zh_w G X1 H1 → va_S (zh_A G) H0 H1 locs → W p l e R s m args below meth c H1 locs (cells + 1) (slots + N) Q (F0 m (pc + 3) ls (.ref a :: rest))) : W p l e R s m args below meth c H locs cells slots Q (F0 m pc ls rest) := by
  unfold znw at hn
  cases hn
  have hKn := hk.1.1 ci _ hc
  refine W.newcK hx hb hown hcl hinst hini rfl hdg hcells hslots hKn.2.1 rfl fun H1 kC hkC e1 z1 o1 => ?_
  rw [hX.2.1]
  refine kk H1 (zh_new hX ⟨_, hc, (u_born ty hts hin hKn hkC e1 hty).to hfs⟩ z1 o1) ⟨Nat.le_trans hS.1 (by omega), fun x h1 h2 => (o1 x (Nat.lt_of_lt_of_le h1 hS.1)).trans (hS.2.1 x h1 h2), hS.2.2⟩
theorem zr_newai {n : Int32} {N' : Nat} (hx : p.tables.exec = Jvm.exec) (hb : c.code = cc) (harr : (Cond.arrayClass (newarray.typeOf .int)).before args s = true) (hk : zh_k G s) (hX : zh_w G X H) (hS : va_S (zh_A G) H0 H locs) (ha : zna X 0 N' = some (a, X1)) (hn : ¬ n < 0) (hN : n.toNatClampNeg = N') (hbytes : N' * componentBytes (newarray.typeOf .int) ≤ 536870912) (hcells : cells + 1 ≤ R.cells) (hslots : slots + N' ≤ R.slots) (hdg : decode cc pc = .ok (.newarray .int, 2))
    (kk : ∀ H1 : Heap, zh_w G X1 H1 → va_S (zh_A G) H0 H1 locs → W p l e R s m args below meth c H1 locs (cells + 1) (slots + N') Q (F0 m (pc + 2) ls (.ref a :: rest))) : W p l e R s m args below meth c H locs cells slots Q (F0 m pc ls (.int n :: rest)) := by
  unfold zna at ha
  cases ha
  have hR : s.vm.findClass ("[" ++ (newarray.typeOf .int).toString) = some (G.2.1 0) := (hk.1.2 0 _ rfl).2
  refine va_newaK (atype := .int) hx hb harr rfl hdg rfl hn hN hbytes hcells hslots rfl ?_
  intro H1 cA e1 z1 o1 hAr hNm
  have hcA : cA = G.2.1 0 := Option.some.inj (hNm.symm.trans hR)
  subst hcA
  have e2 : va_at G.1 classes (H.size, zh_e G (.inl (0, N', .inl (fun _ => 0)))) H1 := e1
  rw [hX.2.1]
  exact kk H1 (zh_new hX e2 z1 o1) ⟨Nat.le_trans hS.1 (by omega), fun x h1 h2 => (o1 x (Nat.lt_of_lt_of_le h1 hS.1)).trans (hS.2.1 x h1 h2), hS.2.2⟩
theorem zr_newaz {n : Int32} {N' : Nat} (hx : p.tables.exec = Jvm.exec) (hb : c.code = cc) (harr : (Cond.arrayClass (newarray.typeOf .boolean)).before args s = true) (hk : zh_k G s) (hX : zh_w G X H) (hS : va_S (zh_A G) H0 H locs) (ha : zna X 1 N' = some (a, X1)) (hn : ¬ n < 0) (hN : n.toNatClampNeg = N') (hbytes : N' * componentBytes (newarray.typeOf .boolean) ≤ 536870912) (hcells : cells + 1 ≤ R.cells) (hslots : slots + N' ≤ R.slots) (hdg : decode cc pc = .ok (.newarray .boolean, 2))
    (kk : ∀ H1 : Heap, zh_w G X1 H1 → va_S (zh_A G) H0 H1 locs → W p l e R s m args below meth c H1 locs (cells + 1) (slots + N') Q (F0 m (pc + 2) ls (.ref a :: rest))) : W p l e R s m args below meth c H locs cells slots Q (F0 m pc ls (.int n :: rest)) := by
  unfold zna at ha
  cases ha
  have hR : s.vm.findClass ("[" ++ (newarray.typeOf .boolean).toString) = some (G.2.1 1) := (hk.1.2 1 _ rfl).2
  refine va_newaK (atype := .boolean) hx hb harr rfl hdg rfl hn hN hbytes hcells hslots rfl ?_
  intro H1 cA e1 z1 o1 hAr hNm
  have hcA : cA = G.2.1 1 := Option.some.inj (hNm.symm.trans hR)
  subst hcA
  have e2 : va_at G.1 classes (H.size, zh_e G (.inl (1, N', .inl (fun _ => 0)))) H1 := e1
  rw [hX.2.1]
  exact kk H1 (zh_new hX e2 z1 o1) ⟨Nat.le_trans hS.1 (by omega), fun x h1 h2 => (o1 x (Nat.lt_of_lt_of_le h1 hS.1)).trans (hS.2.1 x h1 h2), hS.2.2⟩
theorem zr_newq {own C : String} {index t : Nat} {n : Int32} {N' : Nat} (hx : p.tables.exec = Jvm.exec) (hb : c.code = cc) (hown : s.vm.findClass own = some m.cls) (hcl : (Cond.classLink own index C).before args s = true) (hover : va_AO C s) (hk : zh_k G s) (hX : zh_w G X H) (hS : va_S (zh_A G) H0 H locs) (ht : (zh_tys G.2.1)[t]? = some (G.2.1 t, .object C)) (ha : znq X t N' = some (a, X1)) (hn : ¬ n < 0) (hN : n.toNatClampNeg = N') (hbytes : N' * 4 ≤ 536870912) (hcells : cells + 1 ≤ R.cells) (hslots : slots + N' ≤ R.slots) (hdg : decode cc pc = .ok (.anewarray index, 3))
    (kk : ∀ H1 : Heap, zh_w G X1 H1 → va_S (zh_A G) H0 H1 locs → W p l e R s m args below meth c H1 locs (cells + 1) (slots + N') Q (F0 m (pc + 3) ls (.ref a :: rest))) : W p l e R s m args below meth c H locs cells slots Q (F0 m pc ls (.int n :: rest)) := by
  unfold znq at ha
  cases ha
  subst hN
  refine W.anew hx hb hown hcl (va_AO.use hover) rfl hdg rfl hn hbytes hcells hslots fun cA kA comp f1 f2 f3 f4 => ?_
  generalize hH1 : H.push ({ cls := cA, slots := Array.replicate n.toNatClampNeg .null, vm := .none } : Cell) = H1
  have z1 : H1.size = H.size + 1 := by rw [← hH1, Array.size_push]
  have e1 : H1[H.size]? = some (arrV cA n.toNatClampNeg (fun _ => .null)) := by rw [← hH1, Array.getElem?_push_size, ← arrV_new]
  have o1 : ∀ q : Nat, q < H.size → H1[q]? = H[q]? := fun q hq => by rw [← hH1, Array.getElem?_push, if_neg (Nat.ne_of_lt hq)]
  have hcA : cA = G.2.1 t := by
    obtain ⟨_, _, -, -, -, g4⟩ := (hk.1.2 t _ ht).2
    exact Option.some.inj (f1.symm.trans g4)
  subst hcA
  rw [hX.2.1]
  exact kk H1 (zh_new hX e1 z1 o1) ⟨Nat.le_trans hS.1 (by omega), fun x h1 h2 => (o1 x (Nat.lt_of_lt_of_le h1 hS.1)).trans (hS.2.1 x h1 h2), hS.2.2⟩
theorem zv_q {q : Option Nat} : (va_rf q).category = 1 := by cases q <;> rfl
theorem zr_astore_nq {k : Fin 4} {i nL : Nat} {q : Option Nat} {lv lv' : List (Nat × Value)} (hx : p.tables.exec = Jvm.exec) (hb : c.code = cc) (hdg : decode cc pc = .ok (.astore_n k, 1)) (hi : (k : Nat) = i) (h : lv_has ls nL lv) (hn : i < nL) (hl : (i, va_rf q) :: lv.filter (fun q => !(q.1 == i) && !(q.1 + 1 == i && q.2.category == 2)) = lv')
    (kk : ∀ ls' : Array Slot, lv_has ls' nL lv' → W p l e R s m args below meth c H locs cells slots Q (F0 m (pc + 1) ls' rest)) : W p l e R s m args below meth c H locs cells slots Q (F0 m pc ls (va_rf q :: rest)) := by
  cases q with
  | none => exact lv_astore_nN hx hb hdg hi h hn hl kk
  | some x => exact lv_astore_n hx hb hdg hi h hn hl kk
theorem zr_astoreq {i nL : Nat} {q : Option Nat} {lv lv' : List (Nat × Value)} (hx : p.tables.exec = Jvm.exec) (hb : c.code = cc) (hdg : decode cc pc = .ok (.astore i, 2)) (h : lv_has ls nL lv) (hn : i < nL) (hl : (i, va_rf q) :: lv.filter (fun q => !(q.1 == i) && !(q.1 + 1 == i && q.2.category == 2)) = lv')
    (kk : ∀ ls' : Array Slot, lv_has ls' nL lv' → W p l e R s m args below meth c H locs cells slots Q (F0 m (pc + 2) ls' rest)) : W p l e R s m args below meth c H locs cells slots Q (F0 m pc ls (va_rf q :: rest)) := by
  cases q with
  | none => exact lv_astoreN hx hb hdg h hn hl kk
  | some x => exact lv_astore hx hb hdg h hn hl kk
/-! calls -/
theorem zh_good {y : MethodName} {b : ByteArray} {n : Nat} {r : Option FieldType} (h : Cond.code y b n r ∈ TW) : GoodIn TW (.code y b n r :: TW) := by
  intro w hw
  rcases List.mem_cons.mp hw with rfl | h1
  · exact ⟨h, Or.inl rfl⟩
  · exact ⟨h1, tw_good w h1⟩
theorem zh_pre (av : List Value) (hk : zh_k G s) (hX : zh_w G X H) : ∀ U : State, U.heap = H → s.WarmedH U.vm → va_Pc av (zh_W G X) av.toArray U := fun U hU hW => ⟨rfl, by rw [hU]; exact hX, zh_k.moved hW hk⟩
theorem zr_runV {own : String} {nL n index maxL fr lo mc ms b : Nat} {y : MethodName} {bytes : ByteArray} {ret : Option FieldType} {As rest st0 : List Value} {rv : Option Value} {C : String} {T : u_T} {N ci : Nat} {u : Unit} (hx : p.tables.exec = Jvm.exec) (hb : c.code = cc) (hml : c.maxLocals = nL) (hown : s.vm.findClass own = some m.cls) (hts : ∀ w ∈ TW, w.before args s = true) (hk : zh_k G s) (hX : zh_w G X H) (hM : zM l G y (.code y bytes maxL ret :: TW) fr lo X (.ref b :: As) rv X1 mc ms) (hl : (Cond.methodLink own index y).before args s = true) (hcode : Cond.code y bytes maxL ret ∈ TW) (hini : (Cond.initialized y.cls).before args s = true) (hinst : (Cond.instanceMethod y).before args s = true) (hsel : (Cond.selects C y y).before args s = true) (hc : classes[ci]? = some (C, T, N)) (hck : zck X b ci = some u)
    (hd : y.cls ≠ "java/lang/invoke/MethodHandle" ∧ y.cls ≠ "java/lang/invoke/VarHandle" ∧ (parseMethodDescriptor y.desc).map (fun d => d.parameters.length) = some n) (hR : fr + 1 ≤ R.frames ∧ 8 + (maxL + 11) + lo ≤ R.locals) (hg : (F0 m pc ls st0).method = m) (hn : As.length = n) (hsize : ls.size = nL) (hstack : st0 = As.reverse ++ .ref b :: rest) (hW : 2 * (F0 m pc ls st0).monitorRoom + (rest.map fun v => v.category).sum ≤ 8) (hdg : decode cc pc = .ok (.invokevirtual index, 3)) (hf : cells + mc ≤ R.cells ∧ slots + ms ≤ R.slots) :
    va_Run p l e R s m args below meth c H locs cells slots mc ms (F0 m pc ls st0) rest (zh_Q G rv X1 (Value.ref b :: As).toArray) (zh_A G) := by
  obtain ⟨fs, h1⟩ := zck_s hck
  exact va_runV (Ts := TW) ⟨hx, hb, hml, hown, hts⟩ hM ⟨callB_of n hts (zh_good hcode) rfl rfl rfl hini hl hd hR, hinst, hsel⟩ ⟨zh_blind G X _, va_recv (q0 := 0) (fs := fs) hk.1 (zh_one hX h1) hc rfl, zh_pre (.ref b :: As) hk hX⟩ hg hn hsize hstack hW hdg hf
theorem zr_runVN {own : String} {nL n index maxL fr lo mc ms b : Nat} {y : MethodName} {bytes : ByteArray} {ret : Option FieldType} {As rest st0 : List Value} {rv : Option Value} {host : String} {C : String} {T : u_T} {N ci : Nat} {u : Unit} (hx : p.tables.exec = Jvm.exec) (hb : c.code = cc) (hml : c.maxLocals = nL) (hown : s.vm.findClass own = some m.cls) (hts : ∀ w ∈ TW, w.before args s = true) (hk : zh_k G s) (hX : zh_w G X H) (hM : zM l G y (.code y bytes maxL ret :: TW) fr lo X (.ref b :: As) rv X1 mc ms) (hl : va_Nw (.methodLinkNest own index y host) s) (hcode : Cond.code y bytes maxL ret ∈ TW) (hini : (Cond.initialized y.cls).before args s = true) (hinst : (Cond.instanceMethod y).before args s = true) (hsel : (Cond.selects C y y).before args s = true) (hc : classes[ci]? = some (C, T, N)) (hck : zck X b ci = some u)
    (hd : y.cls ≠ "java/lang/invoke/MethodHandle" ∧ y.cls ≠ "java/lang/invoke/VarHandle" ∧ (parseMethodDescriptor y.desc).map (fun d => d.parameters.length) = some n) (hR : fr + 1 ≤ R.frames ∧ 8 + (maxL + 11) + lo ≤ R.locals) (hg : (F0 m pc ls st0).method = m) (hn : As.length = n) (hsize : ls.size = nL) (hstack : st0 = As.reverse ++ .ref b :: rest) (hW : 2 * (F0 m pc ls st0).monitorRoom + (rest.map fun v => v.category).sum ≤ 8) (hdg : decode cc pc = .ok (.invokevirtual index, 3)) (hf : cells + mc ≤ R.cells ∧ slots + ms ≤ R.slots) :
    va_Run p l e R s m args below meth c H locs cells slots mc ms (F0 m pc ls st0) rest (zh_Q G rv X1 (Value.ref b :: As).toArray) (zh_A G) := by
  obtain ⟨fs, h1⟩ := zck_s hck
  exact va_runVN (Ts := TW) ⟨hx, hb, hml, hown, hts⟩ hM ⟨va_cnB n hts (zh_good hcode) rfl rfl rfl hl hini hd hR, hinst, hsel⟩ ⟨zh_blind G X _, va_recv (q0 := 0) (fs := fs) hk.1 (zh_one hX h1) hc rfl, zh_pre (.ref b :: As) hk hX⟩ hg hn hsize hstack hW hdg hf
theorem zr_runS {own : String} {nL n index maxL fr lo mc ms : Nat} {y : MethodName} {bytes : ByteArray} {ret : Option FieldType} {As rest st0 : List Value} {rv : Option Value} (hx : p.tables.exec = Jvm.exec) (hb : c.code = cc) (hml : c.maxLocals = nL) (hown : s.vm.findClass own = some m.cls) (hts : ∀ w ∈ TW, w.before args s = true) (hk : zh_k G s) (hX : zh_w G X H) (hM : zM l G y (.code y bytes maxL ret :: TW) fr lo X (As) rv X1 mc ms) (hl : (Cond.methodLink own index y).before args s = true) (hcode : Cond.code y bytes maxL ret ∈ TW) (hini : (Cond.initialized y.cls).before args s = true) (hstat : (Cond.static y).before args s = true)
    (hd : y.cls ≠ "java/lang/invoke/MethodHandle" ∧ y.cls ≠ "java/lang/invoke/VarHandle" ∧ (parseMethodDescriptor y.desc).map (fun d => d.parameters.length) = some n) (hR : fr + 1 ≤ R.frames ∧ 8 + (maxL + 11) + lo ≤ R.locals) (hg : (F0 m pc ls st0).method = m) (hn : As.length = n) (hsize : ls.size = nL) (hstack : st0 = As.reverse ++ rest) (hW : 2 * (F0 m pc ls st0).monitorRoom + (rest.map fun v => v.category).sum ≤ 8) (hdg : decode cc pc = .ok (.invokestatic index, 3)) (hf : cells + mc ≤ R.cells ∧ slots + ms ≤ R.slots) :
    va_Run p l e R s m args below meth c H locs cells slots mc ms (F0 m pc ls st0) rest (zh_Q G rv X1 (As).toArray) (zh_A G) := by
  exact va_runS (Ts := TW) ⟨hx, hb, hml, hown, hts⟩ hM ⟨callB_of n hts (zh_good hcode) rfl rfl rfl hini hl hd hR, hstat⟩ ⟨zh_blind G X _, zh_pre (As) hk hX⟩ hg hn hsize hstack hW hdg hf
theorem zr_runSN {own : String} {nL n index maxL fr lo mc ms : Nat} {y : MethodName} {bytes : ByteArray} {ret : Option FieldType} {As rest st0 : List Value} {rv : Option Value} {host : String} (hx : p.tables.exec = Jvm.exec) (hb : c.code = cc) (hml : c.maxLocals = nL) (hown : s.vm.findClass own = some m.cls) (hts : ∀ w ∈ TW, w.before args s = true) (hk : zh_k G s) (hX : zh_w G X H) (hM : zM l G y (.code y bytes maxL ret :: TW) fr lo X (As) rv X1 mc ms) (hl : va_Nw (.methodLinkNest own index y host) s) (hcode : Cond.code y bytes maxL ret ∈ TW) (hini : (Cond.initialized y.cls).before args s = true) (hstat : (Cond.static y).before args s = true)
    (hd : y.cls ≠ "java/lang/invoke/MethodHandle" ∧ y.cls ≠ "java/lang/invoke/VarHandle" ∧ (parseMethodDescriptor y.desc).map (fun d => d.parameters.length) = some n) (hR : fr + 1 ≤ R.frames ∧ 8 + (maxL + 11) + lo ≤ R.locals) (hg : (F0 m pc ls st0).method = m) (hn : As.length = n) (hsize : ls.size = nL) (hstack : st0 = As.reverse ++ rest) (hW : 2 * (F0 m pc ls st0).monitorRoom + (rest.map fun v => v.category).sum ≤ 8) (hdg : decode cc pc = .ok (.invokestatic index, 3)) (hf : cells + mc ≤ R.cells ∧ slots + ms ≤ R.slots) :
    va_Run p l e R s m args below meth c H locs cells slots mc ms (F0 m pc ls st0) rest (zh_Q G rv X1 (As).toArray) (zh_A G) := by
  exact va_runSN (Ts := TW) ⟨hx, hb, hml, hown, hts⟩ hM ⟨va_cnB n hts (zh_good hcode) rfl rfl rfl hl hini hd hR, hstat, trivial⟩ ⟨zh_blind G X _, zh_pre (As) hk hX⟩ hg hn hsize hstack hW hdg hf
theorem zr_runI {own : String} {nL n index maxL fr lo mc ms b : Nat} {y : MethodName} {bytes : ByteArray} {As rest st0 : List Value} {rv : Option Value} (hx : p.tables.exec = Jvm.exec) (hb : c.code = cc) (hml : c.maxLocals = nL) (hown : s.vm.findClass own = some m.cls) (hts : ∀ w ∈ TW, w.before args s = true) (hk : zh_k G s) (hX : zh_w G X H) (hM : zM l G y (.code y bytes maxL none :: TW) fr lo X (.ref b :: As) rv X1 mc ms) (hl : (Cond.methodLink own index y).before args s = true) (hcode : Cond.code y bytes maxL none ∈ TW) (hini : (Cond.initialized y.cls).before args s = true) (hinst : (Cond.instanceMethod y).before args s = true)
    (hd : y.cls ≠ "java/lang/invoke/MethodHandle" ∧ y.cls ≠ "java/lang/invoke/VarHandle" ∧ (parseMethodDescriptor y.desc).map (fun d => d.parameters.length) = some n) (hR : fr + 1 ≤ R.frames ∧ 8 + (maxL + 11) + lo ≤ R.locals) (hg : (F0 m pc ls st0).method = m) (hn : As.length = n) (hsize : ls.size = nL) (hstack : st0 = As.reverse ++ .ref b :: rest) (hW : 2 * (F0 m pc ls st0).monitorRoom + (rest.map fun v => v.category).sum ≤ 8) (hdg : decode cc pc = .ok (.invokespecial index, 3)) (hf : cells + mc ≤ R.cells ∧ slots + ms ≤ R.slots) (hy1 : y.name = "<init>" := by rfl) :
    va_Run p l e R s m args below meth c H locs cells slots mc ms (F0 m pc ls st0) rest (zh_Q G rv X1 (Value.ref b :: As).toArray) (zh_A G) := by
  exact va_runI (Ts := TW) ⟨hx, hb, hml, hown, hts⟩ hM ⟨callB_of n hts (zh_good hcode) rfl rfl rfl hini hl hd hR, hy1, hinst⟩ ⟨zh_blind G X _, zh_pre (.ref b :: As) hk hX⟩ hg hn hsize hstack hW hdg hf
theorem zr_runIN {own : String} {nL n index maxL fr lo mc ms b : Nat} {y : MethodName} {bytes : ByteArray} {As rest st0 : List Value} {rv : Option Value} {host : String} (hx : p.tables.exec = Jvm.exec) (hb : c.code = cc) (hml : c.maxLocals = nL) (hown : s.vm.findClass own = some m.cls) (hts : ∀ w ∈ TW, w.before args s = true) (hk : zh_k G s) (hX : zh_w G X H) (hM : zM l G y (.code y bytes maxL none :: TW) fr lo X (.ref b :: As) rv X1 mc ms) (hl : va_Nw (.methodLinkNest own index y host) s) (hcode : Cond.code y bytes maxL none ∈ TW) (hini : (Cond.initialized y.cls).before args s = true) (hinst : (Cond.instanceMethod y).before args s = true)
    (hd : y.cls ≠ "java/lang/invoke/MethodHandle" ∧ y.cls ≠ "java/lang/invoke/VarHandle" ∧ (parseMethodDescriptor y.desc).map (fun d => d.parameters.length) = some n) (hR : fr + 1 ≤ R.frames ∧ 8 + (maxL + 11) + lo ≤ R.locals) (hg : (F0 m pc ls st0).method = m) (hn : As.length = n) (hsize : ls.size = nL) (hstack : st0 = As.reverse ++ .ref b :: rest) (hW : 2 * (F0 m pc ls st0).monitorRoom + (rest.map fun v => v.category).sum ≤ 8) (hdg : decode cc pc = .ok (.invokespecial index, 3)) (hf : cells + mc ≤ R.cells ∧ slots + ms ≤ R.slots) (hy1 : y.name = "<init>" := by rfl) :
    va_Run p l e R s m args below meth c H locs cells slots mc ms (F0 m pc ls st0) rest (zh_Q G rv X1 (Value.ref b :: As).toArray) (zh_A G) := by
  exact va_runIN (Ts := TW) ⟨hx, hb, hml, hown, hts⟩ hM ⟨va_cnB n hts (zh_good hcode) rfl rfl rfl hl hini hd hR, hy1, hinst⟩ ⟨zh_blind G X _, zh_pre (.ref b :: As) hk hX⟩ hg hn hsize hstack hW hdg hf
theorem zr_callg {rv : Option Value} {st0 : List Value} {mc ms : Nat} {av : Array Value} (hr : va_Run p l e R s m args below meth c H locs cells slots mc ms (F0 m pc ls st0) rest (zh_Q G rv X1 av) (zh_A G)) (hS : va_S (zh_A G) H0 H locs)
    (kk : ∀ (H1 : Heap) (locs1 : List Loc), zh_w G X1 H1 → va_S (zh_A G) H0 H1 locs1 → W p l e R s m args below meth c H1 locs1 (cells + mc) (slots + ms) Q (F0 m (pc + 3) ls (rv.toList ++ rest))) : W p l e R s m args below meth c H locs cells slots Q (F0 m pc ls st0) := by
  intro T hT Y
  obtain ⟨v, st₀, t, T', L, h0, Y', hL, e1, e2, ⟨⟨hv, hW⟩, hz, hq⟩, st⟩ := hr T hT Y
  cases hv
  rw [h0] at hz hq
  obtain ⟨t2, a1, b1⟩ := kk T'.heap (locs ++ L) (by rw [e1]; exact hW.1) ⟨Nat.le_trans hS.1 (by rw [e1]; exact hz), fun q h1 h2 => by rw [e1, hq q (Nat.lt_of_lt_of_le h1 hS.1) h2]; exact hS.2.1 q h1 h2, fun q hq => by
      rcases List.mem_append.mp hq with h | h
      · exact hS.2.2 q h
      · exact hL q h⟩ T' rfl Y'
  exact ⟨t2, st t2 a1, b1⟩
theorem zr_calli {r : Int32} {st0 : List Value} {mc ms : Nat} {av : Array Value} (hr : va_Run p l e R s m args below meth c H locs cells slots mc ms (F0 m pc ls st0) rest (zh_Q G (some (.int r)) X1 av) (zh_A G)) (hS : va_S (zh_A G) H0 H locs)
    (kk : ∀ (H1 : Heap) (locs1 : List Loc), zh_w G X1 H1 → va_S (zh_A G) H0 H1 locs1 → W p l e R s m args below meth c H1 locs1 (cells + mc) (slots + ms) Q (F0 m (pc + 3) ls (.int r :: rest))) : W p l e R s m args below meth c H locs cells slots Q (F0 m pc ls st0) := zr_callg hr hS kk
theorem zr_calll {r : Int64} {st0 : List Value} {mc ms : Nat} {av : Array Value} (hr : va_Run p l e R s m args below meth c H locs cells slots mc ms (F0 m pc ls st0) rest (zh_Q G (some (.long r)) X1 av) (zh_A G)) (hS : va_S (zh_A G) H0 H locs)
    (kk : ∀ (H1 : Heap) (locs1 : List Loc), zh_w G X1 H1 → va_S (zh_A G) H0 H1 locs1 → W p l e R s m args below meth c H1 locs1 (cells + mc) (slots + ms) Q (F0 m (pc + 3) ls (.long r :: rest))) : W p l e R s m args below meth c H locs cells slots Q (F0 m pc ls st0) := zr_callg hr hS kk
theorem zr_callq {r : Option Nat} {st0 : List Value} {mc ms : Nat} {av : Array Value} (hr : va_Run p l e R s m args below meth c H locs cells slots mc ms (F0 m pc ls st0) rest (zh_Q G (some (va_rf r)) X1 av) (zh_A G)) (hS : va_S (zh_A G) H0 H locs)
    (kk : ∀ (H1 : Heap) (locs1 : List Loc), zh_w G X1 H1 → va_S (zh_A G) H0 H1 locs1 → W p l e R s m args below meth c H1 locs1 (cells + mc) (slots + ms) Q (F0 m (pc + 3) ls (va_rf r :: rest))) : W p l e R s m args below meth c H locs cells slots Q (F0 m pc ls st0) := zr_callg hr hS kk
theorem zr_callv  {st0 : List Value} {mc ms : Nat} {av : Array Value} (hr : va_Run p l e R s m args below meth c H locs cells slots mc ms (F0 m pc ls st0) rest (zh_Q G none X1 av) (zh_A G)) (hS : va_S (zh_A G) H0 H locs)
    (kk : ∀ (H1 : Heap) (locs1 : List Loc), zh_w G X1 H1 → va_S (zh_A G) H0 H1 locs1 → W p l e R s m args below meth c H1 locs1 (cells + mc) (slots + ms) Q (F0 m (pc + 3) ls (rest))) : W p l e R s m args below meth c H locs cells slots Q (F0 m pc ls st0) := zr_callg hr hS kk
/-! switches -/
theorem zsw_lo {x k : Int32} {lo : Int} (h : x = k) (q : ¬ k.toInt < lo) : ¬ x.toInt < lo := by rw [h]; exact q
theorem zsw_hi {x k : Int32} {hi : Int} (h : x = k) (q : ¬ hi < k.toInt) : ¬ hi < x.toInt := by rw [h]; exact q
theorem zsw_at {x k : Int32} {lo off : Int} {offs : Array Int} (h : x = k) (q : offs[(k.toInt - lo).toNat]? = some off) : offs[(x.toInt - lo).toNat]? = some off := by rw [h]; exact q
theorem zsl_at {x k : Int32} {ps : List (Int × Int)} {d off : Int} (h : x = k) (q : Op.lookupswitch.offset ps d k.toInt = off) : Op.lookupswitch.offset ps d x.toInt = off := by rw [h]; exact q
end ZROWS
/-! a contract, from the walk of the body -/
theorem zr_ofW {l : Launch} {G : zh_G} {y : MethodName} {cc : ByteArray} {maxL fr lo mc ms : Nat} {ret : Option FieldType} {X X1 : zh_T} {av : List Value} {rv : Option Value} (hy : plainName y.cls = true) (hlen : (lg_sl av).length ≤ maxL)
    (body : ∀ (p : Program) (e : Env) (s : State) (m : MethodId) (args : Array Value) (below : List Frame) (meth : Method) (c : Code) (ls : Array Slot), p.tables.exec = Jvm.exec → c.code = cc → c.maxLocals = maxL → meth.sig.returnType = ret → (∀ w ∈ TW, w.before args s = true) → s.vm.findClass y.cls = some m.cls → meth.name = y.name → meth.locks = false → zh_k G s → zh_w G X s.heap → lv_has ls maxL (lv_args 0 av) →
      W p l e { frames := fr, cells := mc, slots := ms, locals := lo } s m args below meth c s.heap [] 0 0 (MQ below (zh_Q G rv X1) args s mc ms (zh_A G)) (F0 m 0 ls [])) : zM l G y (.code y cc maxL ret :: TW) fr lo X av rv X1 mc ms := by
  refine Met.ofW (cc := cc) (maxL := maxL) (ret := ret) hy rfl ?_
  intro p e s m args below meth c s₁ B hml hv
  obtain ⟨rfl, hX, hk⟩ := hv
  have hts := atoms_spec (ws := .code y cc maxL ret :: TW) B.pre
  rw [lg_entry_eq]
  exact body p e s m _ below meth c _ B.exec B.bytes hml B.returns (fun w hw => hts w (List.mem_cons_of_mem _ hw)) (findClass_of_methodNamed B.named) (name_of_methodNamed B.named B.method).1 B.notSynchronized hk hX (lv_entry av hlen)
