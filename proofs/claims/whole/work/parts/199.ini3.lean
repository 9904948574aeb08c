/-! constructors: the class's object -/
theorem zb2_zb2 {α β γ : Type} (f : Option (α × zh_T)) (g : α → zh_T → Option (β × zh_T)) (h : β → zh_T → Option γ) : zb2 (zb2 f g) h = zb2 f fun a Z => zb2 (g a Z) h := by
  cases f with
  | none => rfl
  | some z => rfl
theorem zb2_zb1 {α β γ : Type} (f : Option α) (g : α → Option (β × zh_T)) (h : β → zh_T → Option γ) : zb2 (zb1 f g) h = zb1 f fun a => zb2 (g a) h := by
  cases f with
  | none => rfl
  | some z => rfl
section ZINI3
variable {c : Nat → zh_E} {n A k m N : Nat} {X : zh_T} {β : Type} {r : Option β}
theorem q_wire {g : Unit → zh_T → Option β} (h6 : c 6 = .inr (7, [.ref (A + 7), .int 0])) (h7 : c 7 = .inl (3, 80, .inr (.inr (.inr (.inr fun _ => none))))) (H : g () (blk (wcC c A 0) 168 A X) = r) : zb2 (L_Wire_init_15 N (A + 6) 81 (blk c 8 A X) 0) g = r := by
  have h7' : c 7 = rowE 3 80 A 8 2 0 := by
    rw [h7]
    unfold rowE
    simp
  have e : L_Wire_init_15 N (A + 6) 81 (blk c 8 A X) 0 = some ((), blk (wcC c A 0) 168 A X) := i_wire (N := N) (A := A) (X := X) 80 0 81 c (by omega) (by omega) h6 h7'
  rw [e, zb2_some, H]
theorem q_jour {g : Unit → zh_T → Option β} (h6 : c 174 = .inr (2, [.ref (A + 175), .int 0])) (h7 : c 175 = .inl (2, 5, .inr (.inr (.inr (.inr fun _ => none))))) (H : g () (blk (jcC c A 0) 201 A X) = r) : zb2 (L_Journal_init_14 N (A + 174) 6 (blk c 176 A X) 0) g = r := by
  have h7' : c 175 = rowE 2 5 A 176 5 0 := by
    rw [h7]
    unfold rowE
    simp
  have e : L_Journal_init_14 N (A + 174) 6 (blk c 176 A X) 0 = some ((), blk (jcC c A 0) 201 A X) := i_jour (N := N) (A := A) (X := X) 5 0 6 c (by omega) (by omega) h6 h7'
  rw [e, zb2_some, H]
def put0 : Nat → Int32 := upd (fun _ => 0) 2 ((0 : Int32) ||| ((1 : Int32) <<< ((1 : Int32) &&& 31)))
theorem q_put {g : Unit → zh_T → Option β} (hn : 171 < n) (h0 : c 170 = .inr (5, [.ref (A + 171)])) (h1 : c 171 = .inl (0, 32, .inl fun _ => 0)) (H : g () (blk (cu c 171 (.inl (0, 32, .inl put0))) n A X) = r) : zb2 (f_Records_put N (blk c n A X) (A + 170) 0 3 1) g = r := by
  have e : f_Records_put N (blk c n A X) (A + 170) 0 3 1 = some ((), blk (cu c 171 (.inl (0, 32, .inl put0))) n A X) := by
    have ha : zai (blk c n A X) (A + 171) (ni 2) = some 0 := b_ai (k := 171) (i := 2) hn h1 (by decide) (by decide)
    have hs : ∀ v : Int32, zsi (blk c n A X) (A + 171) (ni 2) v = some (blk (cu c 171 (.inl (0, 32, .inl (upd (fun _ => 0) 2 v)))) n A X) := fun v => b_si (k := 171) (i := 2) hn h1 (by decide) (by decide)
    have hg : zgr (blk c n A X) (A + 170) 5 0 = some (A + 171) := b_gr (k := 170) (by omega) h0 rfl
    have hk : zck (blk c n A X) (A + 170) 5 = some () := b_ck (k := 170) (by omega) h0
    have hi : (4 * 0 + 3 - 1 : Int32) = ni 2 := by decide
    unfold f_Records_put f_Records_valuesOf f_Records_setValues
    simp only [hk, zb1_some, hg, hi, ha, hs, zb2_some]
    rfl
  rw [e, zb2_some, H]
end ZINI3
