/-! what holds at the start -/
theorem zg_m {big : List Cond} (ws : List Cond) (ps : List Nat) (hp : ws = ps.filterMap (fun i => big[i]?)) : ∀ w ∈ ws, w ∈ big := by
  intro w hw
  rw [hp] at hw
  obtain ⟨i, -, hi⟩ := List.mem_filterMap.mp hw
  exact List.mem_of_getElem? hi
theorem nwF_in : ∀ w ∈ nw_F.map (fun t => Cond.fieldLinkNest t.1 t.2.1 t.2.2.1 t.2.2.2.1 t.2.2.2.2.1 t.2.2.2.2.2), w ∈ lw_tbl := zg_m _ [112, 131, 256, 254, 203, 219, 217, 199, 202, 111, 113, 118, 130, 247, 251, 121, 249, 127, 129, 124, 109, 245, 116, 119, 114, 252, 115, 120, 123, 108, 128, 117, 126, 300, 292, 302, 297, 239, 243, 220, 205, 198, 201, 204, 241, 122, 125, 155, 206, 304, 306] (by decide +kernel)
theorem nwM_in : ∀ w ∈ nw_M.map (fun t => Cond.methodLinkNest t.1 t.2.1 t.2.2.1 t.2.2.2), w ∈ lw_tbl := zg_m _ [196, 191, 174, 282, 103, 75, 595, 621, 641, 462, 459, 460, 461, 418, 421, 425, 440] (by decide +kernel)
theorem ao_in : ∀ w ∈ ao_L.map (fun C => Cond.arrayOver (.object C)), w ∈ lw_tbl := zg_m _ [189, 101, 162] (by decide +kernel)
theorem zk_exists {s : State} {args : Array Value} (hts : ∀ w ∈ lw_tbl, w.before args s = true) (B : Nat) : ∃ G : zh_G, G.2.2 = B ∧ zh_k G s := by
  have hT : ∀ w ∈ TW, w.before args s = true := fun w hw => hts w (tw_tbl w hw).1
  obtain ⟨c0, i0, k0⟩ := u_known hT in_Draft (hT _ tW84)
  obtain ⟨c1, i1, k1⟩ := u_known hT in_Entry (hT _ tW19)
  obtain ⟨c2, i2, k2⟩ := u_known hT in_Journal (hT _ tW36)
  obtain ⟨c3, i3, k3⟩ := u_known hT in_Message (hT _ tW75)
  obtain ⟨c4, i4, k4⟩ := u_known hT in_Primary (hT _ tW103)
  obtain ⟨c5, i5, k5⟩ := u_known hT in_Records (hT _ tW10)
  obtain ⟨c6, i6, k6⟩ := u_known hT in_Secondary (hT _ tW109)
  obtain ⟨c7, i7, k7⟩ := u_known hT in_Wire (hT _ tW90)
  obtain ⟨c8, i8, k8⟩ := u_known hT in_ZoneNodes (hT _ tW602)
  obtain ⟨c9, i9, k9⟩ := u_known hT in_ZoneNodesModel (hT _ tW611)
  obtain ⟨a0, b0, q0, n0, g0, h0⟩ := Cond.arrayClass_spec (hT _ tW3)
  obtain ⟨a1, b1, q1, n1, g1, h1⟩ := Cond.arrayClass_spec (hT _ tW81)
  have ho2 : va_AO R_Entry s := va_AO.of (hts _ (ao_in _ (List.mem_map.mpr ⟨_, ao_2, rfl⟩)))
  obtain ⟨q2, a2, b2, f2, -, g2, h2, n2⟩ := Cond.arrayOver_spec ho2
  have ho3 : va_AO R_Message s := va_AO.of (hts _ (ao_in _ (List.mem_map.mpr ⟨_, ao_3, rfl⟩)))
  obtain ⟨q3, a3, b3, f3, -, g3, h3, n3⟩ := Cond.arrayOver_spec ho3
  have ho4 : va_AO R_Secondary s := va_AO.of (hts _ (ao_in _ (List.mem_map.mpr ⟨_, ao_4, rfl⟩)))
  obtain ⟨q4, a4, b4, f4, -, g4, h4, n4⟩ := Cond.arrayOver_spec ho4
  refine ⟨((fun c => match c with | 0 => c0 | 1 => c1 | 2 => c2 | 3 => c3 | 4 => c4 | 5 => c5 | 6 => c6 | 7 => c7 | 8 => c8 | _ => c9, fun c => match c with | 0 => i0 | 1 => i1 | 2 => i2 | 3 => i3 | 4 => i4 | 5 => i5 | 6 => i6 | 7 => i7 | 8 => i8 | _ => i9), fun t => match t with | 0 => a0 | 1 => a1 | 2 => a2 | 3 => a3 | _ => a4, B), rfl, ⟨fun c q hq => ?_, fun k q hq => ?_⟩, fun t ht => va_Nw.of rfl (hts _ (nwF_in _ (List.mem_map.mpr ⟨t, ht, rfl⟩))), fun t ht => va_Nw.of rfl (hts _ (nwM_in _ (List.mem_map.mpr ⟨t, ht, rfl⟩))), fun C hC => va_AO.of (hts _ (ao_in _ (List.mem_map.mpr ⟨C, hC, rfl⟩)))⟩
  · match c, hq with
    | 0, hq =>
      have e := Option.some.inj hq
      subst e
      exact k0
    | 1, hq =>
      have e := Option.some.inj hq
      subst e
      exact k1
    | 2, hq =>
      have e := Option.some.inj hq
      subst e
      exact k2
    | 3, hq =>
      have e := Option.some.inj hq
      subst e
      exact k3
    | 4, hq =>
      have e := Option.some.inj hq
      subst e
      exact k4
    | 5, hq =>
      have e := Option.some.inj hq
      subst e
      exact k5
    | 6, hq =>
      have e := Option.some.inj hq
      subst e
      exact k6
    | 7, hq =>
      have e := Option.some.inj hq
      subst e
      exact k7
    | 8, hq =>
      have e := Option.some.inj hq
      subst e
      exact k8
    | 9, hq =>
      have e := Option.some.inj hq
      subst e
      exact k9
    | c + 10, hq => exact absurd hq (by simp [classes])
  · match k, hq with
    | 0, hq =>
      have e := Option.some.inj hq
      subst e
      exact ⟨fun n z => ⟨(fun k h => by cases h), b0, g0, q0, h0⟩, n0⟩
    | 1, hq =>
      have e := Option.some.inj hq
      subst e
      exact ⟨fun n z => ⟨(fun k h => by cases h), b1, g1, q1, h1⟩, n1⟩
    | 2, hq =>
      have e := Option.some.inj hq
      subst e
      exact ⟨fun n z => ⟨(fun k h => by cases h), b2, g2, q2, h2⟩, ⟨b2, q2, g2, h2, f2, n2⟩⟩
    | 3, hq =>
      have e := Option.some.inj hq
      subst e
      exact ⟨fun n z => ⟨(fun k h => by cases h), b3, g3, q3, h3⟩, ⟨b3, q3, g3, h3, f3, n3⟩⟩
    | 4, hq =>
      have e := Option.some.inj hq
      subst e
      exact ⟨fun n z => ⟨(fun k h => by cases h), b4, g4, q4, h4⟩, ⟨b4, q4, g4, h4, f4, n4⟩⟩
    | k + 5, hq => exact absurd hq (by simp [zh_tys])
