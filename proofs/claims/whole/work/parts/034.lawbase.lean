/-! the script: read by the law and by its helper alone -/
def zMs (l : Launch) (G : zh_G) (y : MethodName) (ws : List Cond) (fr lo : Nat) (X : zh_T) (b L : Nat) (xs : Nat → Int32) (av : List Value) (rv : Option Value) (X1 : zh_T) (mc ms : Nat) : Prop :=
  Met l y ws { frames := fr, cells := mc, slots := ms, locals := lo } (va_Pc av (fun U => zh_W G X U ∧ va_X b L xs U U.heap)) (zh_Q G rv X1) mc ms (zh_A G)
theorem zr_ofWs {l : Launch} {G : zh_G} {y : MethodName} {cc : ByteArray} {maxL fr lo mc ms : Nat} {ret : Option FieldType} {X X1 : zh_T} {b L : Nat} {xs : Nat → Int32} {av : List Value} {rv : Option Value} (hy : plainName y.cls = true) (hlen : (lg_sl av).length ≤ maxL)
    (body : ∀ (p : Program) (e : Env) (s : State) (m : MethodId) (args : Array Value) (below : List Frame) (meth : Method) (c : Code) (ls : Array Slot), p.tables.exec = Jvm.exec → c.code = cc → c.maxLocals = maxL → meth.sig.returnType = ret → (∀ w ∈ TW, w.before args s = true) → s.vm.findClass y.cls = some m.cls → meth.name = y.name → meth.locks = false → zh_k G s → zh_w G X s.heap → va_X b L xs s s.heap → lv_has ls maxL (lv_args 0 av) →
      W p l e { frames := fr, cells := mc, slots := ms, locals := lo } s m args below meth c s.heap [] 0 0 (MQ below (zh_Q G rv X1) args s mc ms (zh_A G)) (F0 m 0 ls [])) : zMs l G y (.code y cc maxL ret :: TW) fr lo X b L xs av rv X1 mc ms := by
  refine Met.ofW (cc := cc) (maxL := maxL) (ret := ret) hy rfl ?_
  intro p e s m args below meth c s₁ B hml hv
  obtain ⟨rfl, ⟨hX, hk⟩, hV⟩ := hv
  have hts := atoms_spec (ws := .code y cc maxL ret :: TW) B.pre
  rw [lg_entry_eq]
  exact body p e s m _ below meth c _ B.exec B.bytes hml B.returns (fun w hw => hts w (List.mem_cons_of_mem _ hw)) (findClass_of_methodNamed B.named) (name_of_methodNamed B.named B.method).1 B.notSynchronized hk hX hV (lv_entry av hlen)
section ZLAWROWS
variable {p : Program} {l : Launch} {e : Env} {R : Room} {s : State} {m : MethodId} {args : Array Value} {below : List Frame} {meth : Method} {c : Code} {H H0 : Heap} {locs : List Loc} {cells slots : Nat} {Q : State → Prop} {cc : ByteArray} {pc : Nat} {ls : Array Slot} {rest : List Value} {G : zh_G} {X X1 : zh_T}
theorem zr_sld (hx : p.tables.exec = Jvm.exec) (hb : c.code = cc) {b L : Nat} {xs : Nat → Int32} (hV : va_X b L xs s H0) (hbl : b < H0.size) (hbA : ¬ zh_A G b) (hS : va_S (zh_A G) H0 H locs) {i v : Int32} (hv : zsc xs L i = some v) (hdg : decode cc pc = .ok (.iaload, 1))
    (kk : W p l e R s m args below meth c H locs cells slots Q (F0 m (pc + 1) ls (.int v :: rest))) : W p l e R s m args below meth c H locs cells slots Q (F0 m pc ls (.int i :: .ref b :: rest)) := by
  obtain ⟨h1, rfl⟩ := zsc_s hv
  exact va_sld hx hb hV hbl hbA hS h1 hdg kk
theorem zr_runSs {own : String} {nL n index maxL fr lo mc ms b L : Nat} {xs : Nat → Int32} {y : MethodName} {bytes : ByteArray} {ret : Option FieldType} {As rest st0 : List Value} {rv : Option Value} (hx : p.tables.exec = Jvm.exec) (hb : c.code = cc) (hml : c.maxLocals = nL) (hown : s.vm.findClass own = some m.cls) (hts : ∀ w ∈ TW, w.before args s = true) (hk : zh_k G s) (hX : zh_w G X H) (hVX : va_X b L xs s H) (hM : zMs l G y (.code y bytes maxL ret :: TW) fr lo X b L xs As rv X1 mc ms) (hl : (Cond.methodLink own index y).before args s = true) (hcode : Cond.code y bytes maxL ret ∈ TW) (hini : (Cond.initialized y.cls).before args s = true) (hstat : (Cond.static y).before args s = true)
    (hd : y.cls ≠ "java/lang/invoke/MethodHandle" ∧ y.cls ≠ "java/lang/invoke/VarHandle" ∧ (parseMethodDescriptor y.desc).map (fun d => d.parameters.length) = some n) (hR : fr + 1 ≤ R.frames ∧ 8 + (maxL + 11) + lo ≤ R.locals) (hg : (F0 m pc ls st0).method = m) (hn : As.length = n) (hsize : ls.size = nL) (hstack : st0 = As.reverse ++ rest) (hW : 2 * (F0 m pc ls st0).monitorRoom + (rest.map fun v => v.category).sum ≤ 8) (hdg : decode cc pc = .ok (.invokestatic index, 3)) (hf : cells + mc ≤ R.cells ∧ slots + ms ≤ R.slots) :
    va_Run p l e R s m args below meth c H locs cells slots mc ms (F0 m pc ls st0) rest (zh_Q G rv X1 (As).toArray) (zh_A G) :=
  va_runS (Ts := TW) ⟨hx, hb, hml, hown, hts⟩ hM ⟨callB_of n hts (zh_good hcode) rfl rfl rfl hini hl hd hR, hstat⟩
    ⟨fun a U g mk q => ⟨q.1, ⟨q.2.1.1, zh_k.same (s := U) rfl q.2.1.2⟩, va_X.moved (u := U) (State.WarmedH.refl U).alike q.2.2⟩,
      fun U hU hW => ⟨rfl, ⟨by rw [hU]; exact hX, zh_k.moved hW hk⟩, by rw [hU]; exact va_X.moved hW.alike hVX⟩⟩ hg hn hsize hstack hW hdg hf
end ZLAWROWS
