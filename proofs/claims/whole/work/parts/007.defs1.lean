def f_ZoneNodes_messages (N : Nat) (X : zh_T) (x0 : Nat) : Option Int32 :=
  zb1 (zgr X x0 8 3) fun a2 =>
  zb1 (zgi X a2 7 1) fun v4 =>
  some v4
def f_Draft_addNeed (N : Nat) (X : zh_T) (x0 : Nat) (x1 : Int32) : Option (Int32 × zh_T) :=
  zb1 (zgi X x0 0 2) fun v2 =>
  if v2 < 4 then
    zb1 (zgr X x0 0 0) fun a5 =>
    zb1 (zgi X x0 0 2) fun v7 =>
    zb1 (zsi X a5 v7 x1) fun X8 =>
    zb1 (zgi X8 x0 0 2) fun v11 =>
    zb1 (zp X8 x0 0 2 (.int (v11 + 1))) fun X12 =>
    some (1, X12)
  else
    some (0, X)
def f_ZoneNodes_need (N : Nat) (X : zh_T) (x0 : Nat) (x1 : Int32) (x2 : Int32) (x3 : Int32) (x4 : Int32) : Option (Int32 × zh_T) :=
  zb1 (f_ZoneNodes_within N X x1 0 4) fun v2 =>
  if v2 = 0 then
    some (0, X)
  else
    zb1 (f_ZoneNodes_isRecord N X x2 x3 x4) fun v5 =>
    if v5 = 0 then
      some (0, X)
    else
      zb1 (zgr X x0 8 2) fun a8 =>
      zb1 (f_ZoneNodes_coded N X x1 x2 x3 x4) fun v10 =>
      zb1 (zck X a8 0) fun _ =>
      zb2 (f_Draft_addNeed N X a8 v10) fun v13 X14 =>
      if v13 = 0 then
        some (0, X14)
      else
        some (1, X14)
def f_Secondary_isExpired (N : Nat) (X : zh_T) (x0 : Nat) (x1 : Int32) : Option Int32 :=
  zb1 (zgi X x0 6 12) fun v2 =>
  if x1 < v2 then
    some 0
  else
    some 1
def f_ZoneNodes_query (N : Nat) (X : zh_T) (x0 : Nat) (x1 : Int32) (x2 : Int32) (x3 : Int32) : Option Int32 :=
  zb1 (zck X x0 8) fun _ =>
  zb1 (f_ZoneNodes_recordsOf N X x0 x1) fun q3 =>
  zbo q3 (
    some (-1)) fun a4 =>
  zb1 (f_ZoneNodes_isRecord N X x2 x3 0) fun v6 =>
  if v6 = 0 then
    some (-1)
  else
    zb1 (zck X x0 8) fun _ =>
    zb1 (f_ZoneNodes_isUp N X x0 x1) fun v10 =>
    if v10 = 0 then
      some (-1)
    else
      if x1 = 0 then
        zb1 (f_ZoneNodes_lookUp N X a4 x2 x3) fun v14 =>
        some v14
      else
        zb1 (zgr X x0 8 5) fun a16 =>
        zb1 (zar X 4 a16 (x1 - 1)) fun a18 =>
        zb1 (zgi X x0 8 6) fun v20 =>
        zb1 (zck X a18 6) fun _ =>
        zb1 (f_Secondary_isExpired N X a18 v20) fun v23 =>
        if v23 = 0 then
          zb1 (f_ZoneNodes_lookUp N X a4 x2 x3) fun v26 =>
          some v26
        else
          some (-1)
def f_Draft_mixed (N : Nat) (X : zh_T) (x0 : Int32) (x1 : Int32) : Option Int32 :=
  some (((x0 ^^^ x1) * 16777619) ^^^ (zi_ushr ((x0 ^^^ x1) * 16777619) 15))
def L_Draft_sealWith_12 (N : Nat) (X : zh_T) (w0 : Nat) (w2 : Int32) : Nat → Int32 → Int32 → Option Int32
  | 0, _, _ => none
  | n + 1, w3, w4 =>
    zb1 (zgi X w0 0 2) fun v6 =>
    if v6 ≤ w4 then
      some w3
    else
      zb1 (zgr X w0 0 0) fun a9 =>
      zb1 (zai X a9 w4) fun v10 =>
      zb1 (f_Draft_mixed N X w3 v10) fun v13 =>
      L_Draft_sealWith_12 N X w0 w2 n v13 (w4 + 1)
def L_Draft_sealWith_51 (N : Nat) (X : zh_T) (w0 : Nat) (w2 : Int32) : Nat → Int32 → Int32 → Option Int32
  | 0, _, _ => none
  | n + 1, w3, w4 =>
    zb1 (zgi X w0 0 3) fun v21 =>
    if v21 ≤ w4 then
      some w3
    else
      zb1 (zgr X w0 0 1) fun a24 =>
      zb1 (zai X a24 w4) fun v25 =>
      zb1 (f_Draft_mixed N X w3 v25) fun v28 =>
      L_Draft_sealWith_51 N X w0 w2 n v28 (w4 + 1)
def f_Draft_sealWith (N : Nat) (X : zh_T) (x0 : Nat) (x1 : Int32) (x2 : Int32) : Option Int32 :=
  zb1 (zgi X x0 0 2) fun v2 =>
  zb1 (f_Draft_mixed N X x1 v2) fun v4 =>
  zb1 (L_Draft_sealWith_12 N X x0 x2 N v4 0) fun v14 =>
  zb1 (zgi X x0 0 3) fun v17 =>
  zb1 (f_Draft_mixed N X v14 v17) fun v19 =>
  zb1 (L_Draft_sealWith_51 N X x0 x2 N v19 0) fun v29 =>
  zb1 (f_Draft_mixed N X v29 x2) fun v32 =>
  some v32
def f_Draft_answerTo (N : Nat) (X : zh_T) (x0 : Int32) (x1 : Nat) : Option Int32 :=
  zb1 (f_ZoneNodes_nameOf N X x0) fun v2 =>
  zb1 (f_ZoneNodes_typeOf N X x0) fun v4 =>
  zb1 (zck X x1 5) fun _ =>
  zb1 (f_Records_valuesOf N X x1 v2 v4) fun v7 =>
  zb1 (f_ZoneNodes_formOf N X x0) fun v9 =>
  if v9 = 0 then
    zb1 (zck X x1 5) fun _ =>
    zb1 (f_Records_isUsed N X x1 v2) fun v13 =>
    if v13 = 0 then
      some 3
    else
      some 0
  else
    if v9 = 1 then
      zb1 (zck X x1 5) fun _ =>
      zb1 (f_Records_isUsed N X x1 v2) fun v18 =>
      if v18 = 0 then
        some 0
      else
        some 6
    else
      if v9 = 2 then
        if v7 = 0 then
          some 8
        else
          some 0
      else
        if v9 = 3 then
          some 0
        else
          if v9 = 4 then
            if v7 = 0 then
              some 0
            else
              some 7
          else
            some 0
def L_Draft_isExact_5 (N : Nat) (X : zh_T) (w0 : Nat) (w1 : Int32) (w2 : Nat) : Nat → Int32 → Int32 → Option Int32
  | 0, _, _ => none
  | n + 1, w3, w4 =>
    zb1 (zgi X w0 0 2) fun v2 =>
    if v2 ≤ w4 then
      some w3
    else
      zb1 (zgr X w0 0 0) fun a5 =>
      zb1 (zai X a5 w4) fun v6 =>
      if (v6 / 10) = (w1 / 10) then
        zb1 (zgr X w0 0 0) fun a10 =>
        zb1 (zai X a10 w4) fun v11 =>
        zb1 (f_ZoneNodes_valueOf N X v11) fun v14 =>
        L_Draft_isExact_5 N X w0 w1 w2 n (w3 ||| (1 <<< (v14 &&& 31))) (w4 + 1)
      else
        L_Draft_isExact_5 N X w0 w1 w2 n w3 (w4 + 1)
def f_Draft_isExact (N : Nat) (X : zh_T) (x0 : Nat) (x1 : Int32) (x2 : Nat) : Option Int32 :=
  zb1 (L_Draft_isExact_5 N X x0 x1 x2 N 0 0) fun v15 =>
  zb1 (f_ZoneNodes_nameOf N X x1) fun v18 =>
  zb1 (f_ZoneNodes_typeOf N X x1) fun v20 =>
  zb1 (zck X x2 5) fun _ =>
  zb1 (f_Records_valuesOf N X x2 v18 v20) fun v23 =>
  if v15 = v23 then
    some 1
  else
    some 0
def L_Draft_unmetNeed_2 (N : Nat) (X : zh_T) (w0 : Nat) (w1 : Nat) : Nat → Int32 → Option (Int32 ⊕ Unit)
  | 0, _ => none
  | n + 1, w2 =>
    zb1 (zgi X w0 0 2) fun v2 =>
    if v2 ≤ w2 then
      some (Sum.inr ())
    else
      zb1 (zgr X w0 0 0) fun a5 =>
      zb1 (zai X a5 w2) fun v6 =>
      zb1 (f_Draft_answerTo N X v6 w1) fun v9 =>
      if v9 = 0 then
        L_Draft_unmetNeed_2 N X w0 w1 n (w2 + 1)
      else
        some (Sum.inl v9)
def L_Draft_unmetNeed_35 (N : Nat) (X : zh_T) (w0 : Nat) (w1 : Nat) : Nat → Int32 → Option (Int32 ⊕ Unit)
  | 0, _ => none
  | n + 1, w2 =>
    zb1 (zgi X w0 0 2) fun v14 =>
    if v14 ≤ w2 then
      some (Sum.inr ())
    else
      zb1 (zgr X w0 0 0) fun a17 =>
      zb1 (zai X a17 w2) fun v18 =>
      zb1 (f_ZoneNodes_formOf N X v18) fun v21 =>
      if v21 = 3 then
        zb1 (zgr X w0 0 0) fun a24 =>
        zb1 (zai X a24 w2) fun v25 =>
        zb1 (zck X w0 0) fun _ =>
        zb1 (f_Draft_isExact N X w0 v25 w1) fun v29 =>
        if v29 = 0 then
          some (Sum.inl 8)
        else
          L_Draft_unmetNeed_35 N X w0 w1 n (w2 + 1)
      else
        L_Draft_unmetNeed_35 N X w0 w1 n (w2 + 1)
def f_Draft_unmetNeed (N : Nat) (X : zh_T) (x0 : Nat) (x1 : Nat) : Option Int32 :=
  zbs (L_Draft_unmetNeed_2 N X x0 x1 N 0) (fun r0 => some r0) fun v11 =>
  zbs (L_Draft_unmetNeed_35 N X x0 x1 N 0) (fun r0 => some r0) fun v31 =>
  some 0
def f_ZoneNodes_refusal (N : Nat) (X : zh_T) (x0 : Nat) (x1 : Int32) (x2 : Int32) (x3 : Int32) : Option Int32 :=
  zb1 (zck X x0 8) fun _ =>
  zb1 (f_ZoneNodes_knowsKey N X x0 x1) fun v3 =>
  if v3 = 0 then
    some 17
  else
    zb1 (zgr X x0 8 2) fun a6 =>
    zb1 (zgr X x0 8 0) fun a8 =>
    zb1 (zai X a8 x1) fun v9 =>
    zb1 (zck X a6 0) fun _ =>
    zb1 (f_Draft_sealWith N X a6 v9 x2) fun v13 =>
    if v13 = x3 then
      zb1 (zgi X x0 8 6) fun v16 =>
      if 0 < (lg_cmp (x2.toInt64 - v16.toInt64) 5) then
        some 18
      else
        if 0 ≤ (lg_cmp (x2.toInt64 - v16.toInt64) (-5)) then
          zb1 (zgr X x0 8 2) fun a20 =>
          zb1 (zgr X x0 8 4) fun a22 =>
          zb1 (zgr X a22 4 0) fun a24 =>
          zb1 (zck X a20 0) fun _ =>
          zb1 (f_Draft_unmetNeed N X a20 a24) fun v27 =>
          some v27
        else
          some 18
    else
      some 16
def f_Journal_dropLatest (N : Nat) (X : zh_T) (x0 : Nat) : Option (Unit × zh_T) :=
  zb1 (zgi X x0 2 1) fun v2 =>
  if v2 ≤ 0 then
    some ((), X)
  else
    zb1 (zgi X x0 2 1) fun v5 =>
    zb1 (zp X x0 2 1 (.int (v5 - 1))) fun X6 =>
    some ((), X6)
def f_Primary_comeUp (N : Nat) (X : zh_T) (x0 : Nat) : Option (Unit × zh_T) :=
  zb1 (zpz X x0 4 8 1) fun X1 =>
  zb1 (zgr X1 x0 4 2) fun a4 =>
  zb1 (zck X1 a4 2) fun _ =>
  zb1 (f_Journal_latest N X1 a4) fun q7 =>
  zbo q7 (
    some ((), X1)) fun a8 =>
  zb1 (zgi X1 a8 1 2) fun v10 =>
  zb1 (zgi X1 x0 4 6) fun v12 =>
  if v10 = v12 then
    zb1 (zgi X1 a8 1 3) fun v15 =>
    if v15 = 0 then
      zb1 (zgr X1 x0 4 2) fun a18 =>
      zb1 (zck X1 a18 2) fun _ =>
      zb2 (f_Journal_dropLatest N X1 a18) fun _ X22 =>
      some ((), X22)
    else
      zb1 (zck X1 x0 4) fun _ =>
      zb2 (f_Primary_becomeLatest N X1 x0) fun _ X26 =>
      some ((), X26)
  else
    some ((), X1)
def f_ZoneNodes_restart (N : Nat) (X : zh_T) (x0 : Nat) (x1 : Int32) : Option (Int32 × zh_T) :=
  zb1 (f_ZoneNodes_isNode N X x1) fun v2 =>
  if v2 = 0 then
    some (0, X)
  else
    zb1 (zck X x0 8) fun _ =>
    zb1 (f_ZoneNodes_isUp N X x0 x1) fun v6 =>
    if v6 = 0 then
      if x1 = 0 then
        zb1 (zgr X x0 8 4) fun a20 =>
        zb1 (zck X a20 4) fun _ =>
        zb2 (f_Primary_comeUp N X a20) fun _ X24 =>
        zb1 (zck X24 x0 8) fun _ =>
        zb2 (f_ZoneNodes_notifySecondaries N X24 x0) fun _ X28 =>
        some (1, X28)
      else
        zb1 (zgr X x0 8 5) fun a10 =>
        zb1 (zar X 4 a10 (x1 - 1)) fun a12 =>
        zb1 (zgi X x0 8 6) fun v14 =>
        zb1 (zck X a12 6) fun _ =>
        zb2 (f_Secondary_comeUp N X a12 v14) fun _ X18 =>
        some (1, X18)
    else
      some (0, X)
def f_ZoneNodes_seal (N : Nat) (X : zh_T) (x0 : Nat) (x1 : Int32) (x2 : Int32) : Option Int32 :=
  zb1 (zck X x0 8) fun _ =>
  zb1 (f_ZoneNodes_knowsKey N X x0 x1) fun v3 =>
  if v3 = 0 then
    some 0
  else
    zb1 (zgr X x0 8 2) fun a6 =>
    zb1 (zgr X x0 8 0) fun a8 =>
    zb1 (zai X a8 x1) fun v9 =>
    zb1 (zck X a6 0) fun _ =>
    zb1 (f_Draft_sealWith N X a6 v9 x2) fun v13 =>
    some v13
def f_ZoneNodes_serial (N : Nat) (X : zh_T) (x0 : Nat) (x1 : Int32) : Option Int32 :=
  zb1 (zck X x0 8) fun _ =>
  zb1 (f_ZoneNodes_recordsOf N X x0 x1) fun q3 =>
  zbo q3 (
    some 0) fun a4 =>
  if x1 = 0 then
    zb1 (zgr X x0 8 4) fun a13 =>
    zb1 (zgi X a13 4 6) fun v15 =>
    some v15
  else
    zb1 (zgr X x0 8 5) fun a7 =>
    zb1 (zar X 4 a7 (x1 - 1)) fun a9 =>
    zb1 (zgi X a9 6 8) fun v11 =>
    some v11
def f_ZoneNodes_size (N : Nat) (X : zh_T) (x0 : Nat) (x1 : Int32) : Option Int32 :=
  zb1 (zck X x0 8) fun _ =>
  zb1 (f_ZoneNodes_recordsOf N X x0 x1) fun q3 =>
  zbo q3 (
    some (-1)) fun a4 =>
  zb1 (zck X a4 5) fun _ =>
  zb1 (f_Records_total N X a4) fun v7 =>
  some v7
def f_ZoneNodes_state (N : Nat) (X : zh_T) (x0 : Nat) (x1 : Int32) : Option Int32 :=
  zb1 (f_ZoneNodes_isNode N X x1) fun v2 =>
  if v2 = 0 then
    some (-1)
  else
    zb1 (zck X x0 8) fun _ =>
    zb1 (f_ZoneNodes_isUp N X x0 x1) fun v6 =>
    if v6 = 0 then
      some 3
    else
      if x1 = 0 then
        some 0
      else
        zb1 (zgr X x0 8 5) fun a10 =>
        zb1 (zar X 4 a10 (x1 - 1)) fun a12 =>
        zb1 (zgi X a12 6 9) fun v14 =>
        some v14
def J_Secondary_askIfTimeHasCome_47 (N : Nat) (X : zh_T) (w0 : Nat) (w1 : Int32) (w2 : Nat) (w3 : Int32) (u0 : Int32) : Option (Unit × zh_T) :=
  zb1 (zgi X w0 6 6) fun v8 =>
  if v8 = 0 then
    some ((), X)
  else
    if w3 = 0 then
      if u0 = 0 then
        some ((), X)
      else
        zb1 (zck X w0 6) fun _ =>
        zb2 (f_Secondary_ask N X w0 w1 w2) fun _ X19 =>
        some ((), X19)
    else
      zb1 (zck X w0 6) fun _ =>
      zb2 (f_Secondary_ask N X w0 w1 w2) fun _ X14 =>
      some ((), X14)
def f_Secondary_askIfTimeHasCome (N : Nat) (X : zh_T) (x0 : Nat) (x1 : Int32) (x2 : Nat) : Option (Unit × zh_T) :=
  zb1 (zgi X x0 6 9) fun v2 =>
  if v2 = 1 then
    zb1 (zgi X x0 6 11) fun v24 =>
    zb1 (zgi X x0 6 2) fun v26 =>
    if (x1 - v26) < v24 then
      zb1 (zgi X x0 6 9) fun v29 =>
      if v29 = 0 then
        zb1 (zgi X x0 6 10) fun v32 =>
        if x1 < v32 then
          J_Secondary_askIfTimeHasCome_47 N X x0 x1 x2 0 0
        else
          J_Secondary_askIfTimeHasCome_47 N X x0 x1 x2 0 1
      else
        J_Secondary_askIfTimeHasCome_47 N X x0 x1 x2 0 0
    else
      zb1 (zgi X x0 6 9) fun v35 =>
      if v35 = 0 then
        zb1 (zgi X x0 6 10) fun v38 =>
        if x1 < v38 then
          J_Secondary_askIfTimeHasCome_47 N X x0 x1 x2 1 0
        else
          J_Secondary_askIfTimeHasCome_47 N X x0 x1 x2 1 1
      else
        J_Secondary_askIfTimeHasCome_47 N X x0 x1 x2 1 0
  else
    zb1 (zgi X x0 6 9) fun v5 =>
    if v5 = 0 then
      zb1 (zgi X x0 6 10) fun v21 =>
      if x1 < v21 then
        J_Secondary_askIfTimeHasCome_47 N X x0 x1 x2 0 0
      else
        J_Secondary_askIfTimeHasCome_47 N X x0 x1 x2 0 1
    else
      J_Secondary_askIfTimeHasCome_47 N X x0 x1 x2 0 0
def L_ZoneNodes_tick_31 (N : Nat) (w0 : Nat) (w1 : Int32) (w2 : Int32) : Nat → zh_T → Int32 → Option (Unit × zh_T)
  | 0, _, _ => none
  | n + 1, X, w3 =>
    if 2 ≤ w3 then
      some ((), X)
    else
      zb1 (zgr X w0 8 5) fun a11 =>
      zb1 (zar X 4 a11 w3) fun a13 =>
      zb1 (zgi X w0 8 6) fun v15 =>
      zb1 (zgr X w0 8 3) fun a17 =>
      zb1 (zck X a13 6) fun _ =>
      zb2 (f_Secondary_askIfTimeHasCome N X a13 v15 a17) fun _ X21 =>
      L_ZoneNodes_tick_31 N w0 w1 w2 n X21 (w3 + 1)
def L_ZoneNodes_tick_14 (N : Nat) (w0 : Nat) (w1 : Int32) : Nat → zh_T → Int32 → Option (Unit × zh_T)
  | 0, _, _ => none
  | n + 1, X, w2 =>
    if w1 ≤ w2 then
      some ((), X)
    else
      zb1 (zgi X w0 8 6) fun v6 =>
      zb1 (zp X w0 8 6 (.int (v6 + 1))) fun X7 =>
      zb2 (L_ZoneNodes_tick_31 N w0 w1 w2 N X7 0) fun v22 X24 =>
      L_ZoneNodes_tick_14 N w0 w1 n X24 (w2 + 1)
def f_ZoneNodes_tick (N : Nat) (X : zh_T) (x0 : Nat) (x1 : Int32) : Option (Int32 × zh_T) :=
  zb1 (f_ZoneNodes_within N X x1 1 20) fun v2 =>
  if v2 = 0 then
    some (0, X)
  else
    zb2 (L_ZoneNodes_tick_14 N x0 x1 N X 0) fun v25 X27 =>
    some (1, X27)
def f_Draft_empty (N : Nat) (X : zh_T) (x0 : Nat) : Option (Unit × zh_T) :=
  zb1 (zp X x0 0 2 (.int 0)) fun X1 =>
  zb1 (zp X1 x0 0 3 (.int 0)) fun X3 =>
  some ((), X3)
def f_ZoneNodes_update (N : Nat) (X : zh_T) (x0 : Nat) (x1 : Int32) (x2 : Int32) (x3 : Int32) : Option (Int32 × zh_T) :=
  zb1 (zgr X x0 8 4) fun a2 =>
  zb1 (zgi X a2 4 8) fun v4 =>
  if v4 = 0 then
    some ((-1), X)
  else
    zb1 (zck X x0 8) fun _ =>
    zb1 (f_ZoneNodes_refusal N X x0 x1 x2 x3) fun v8 =>
    if v8 = 0 then
      zb1 (zck X x0 8) fun _ =>
      zb2 (f_ZoneNodes_makeChanges N X x0) fun v18 X19 =>
      zb1 (zgr X19 x0 8 2) fun a21 =>
      zb1 (zck X19 a21 0) fun _ =>
      zb2 (f_Draft_empty N X19 a21) fun _ X25 =>
      some (v18, X25)
    else
      zb1 (zgr X x0 8 2) fun a11 =>
      zb1 (zck X a11 0) fun _ =>
      zb2 (f_Draft_empty N X a11) fun _ X15 =>
      some (v8, X15)
def f_ZoneNodesModel_place (N : Nat) (X : zh_T) (x0 : Int32) (x1 : Int32) (x2 : Int32) : Option Int32 :=
  some (((32 * x0) + (8 * (x1 - 1))) + x2)
def f_ZoneNodesModel_rest (N : Nat) (X : zh_T) (x0 : Nat) (x1 : Int32) (x2 : Int32) : Option (Unit × zh_T) :=
  zb1 (zgr X x0 9 9) fun a2 =>
  zb1 (zsi X a2 x1 0) fun X3 =>
  zb1 (zgr X3 x0 9 10) fun a6 =>
  zb1 (zgi X3 x0 9 3) fun v8 =>
  zb1 (zsi X3 a6 x1 (v8 + x2)) fun X9 =>
  some ((), X9)
def L_ZoneNodesModel_init_280 (N : Nat) (w0 : Nat) : Nat → zh_T → Int32 → Option (Unit × zh_T)
  | 0, _, _ => none
  | n + 1, X, w5 =>
    if 3 ≤ w5 then
      some ((), X)
    else
      zb1 (zgr X w0 9 4) fun a141 =>
      zb1 (zsz X a141 w5 1) fun X142 =>
      L_ZoneNodesModel_init_280 N w0 n X142 (w5 + 1)
def J_ZoneNodesModel_init_222 (N : Nat) (X : zh_T) (w0 : Nat) (w1 : Int32) (w4 : Int32) (u0 : Nat) (u1 : Int32) : Option (Unit × zh_T) :=
  zb1 (zp X u0 9 1 (.int u1)) fun X120 =>
  if w4 < 10 then
    zb1 (zp X120 w0 9 2 (.int 60)) fun X123 =>
    zb1 (zgr X123 w0 9 6) fun a126 =>
    zb1 (zsi X123 a126 0 w1) fun X127 =>
    zb1 (zgr X127 w0 9 5) fun a130 =>
    zb1 (zsz X127 a130 0 1) fun X131 =>
    zb1 (zgr X131 w0 9 7) fun a134 =>
    zb1 (f_ZoneNodesModel_place N X131 0 3 1) fun v136 =>
    zb1 (zsz X131 a134 v136 1) fun X137 =>
    zb2 (L_ZoneNodesModel_init_280 N w0 N X137 0) fun v144 X146 =>
    zb1 (zck X146 w0 9) fun _ =>
    zb2 (f_ZoneNodesModel_rest N X146 w0 1 1) fun _ X150 =>
    zb1 (zck X150 w0 9) fun _ =>
    zb2 (f_ZoneNodesModel_rest N X150 w0 2 1) fun _ X154 =>
    zb1 (zgr X154 w0 9 11) fun a156 =>
    zb1 (zgi X154 w0 9 2) fun v158 =>
    zb1 (zsi X154 a156 1 v158) fun X159 =>
    zb1 (zgr X159 w0 9 11) fun a162 =>
    zb1 (zgi X159 w0 9 2) fun v164 =>
    zb1 (zsi X159 a162 2 v164) fun X165 =>
    some ((), X165)
  else
    if 200 < w4 then
      zb1 (zp X120 w0 9 2 (.int 60)) fun X168 =>
      zb1 (zgr X168 w0 9 6) fun a171 =>
      zb1 (zsi X168 a171 0 w1) fun X172 =>
      zb1 (zgr X172 w0 9 5) fun a175 =>
      zb1 (zsz X172 a175 0 1) fun X176 =>
      zb1 (zgr X176 w0 9 7) fun a179 =>
      zb1 (f_ZoneNodesModel_place N X176 0 3 1) fun v181 =>
      zb1 (zsz X176 a179 v181 1) fun X182 =>
      zb2 (L_ZoneNodesModel_init_280 N w0 N X182 0) fun v184 X186 =>
      zb1 (zck X186 w0 9) fun _ =>
      zb2 (f_ZoneNodesModel_rest N X186 w0 1 1) fun _ X190 =>
      zb1 (zck X190 w0 9) fun _ =>
      zb2 (f_ZoneNodesModel_rest N X190 w0 2 1) fun _ X194 =>
      zb1 (zgr X194 w0 9 11) fun a196 =>
      zb1 (zgi X194 w0 9 2) fun v198 =>
      zb1 (zsi X194 a196 1 v198) fun X199 =>
      zb1 (zgr X199 w0 9 11) fun a202 =>
      zb1 (zgi X199 w0 9 2) fun v204 =>
      zb1 (zsi X199 a202 2 v204) fun X205 =>
      some ((), X205)
    else
      zb1 (zp X120 w0 9 2 (.int w4)) fun X207 =>
      zb1 (zgr X207 w0 9 6) fun a210 =>
      zb1 (zsi X207 a210 0 w1) fun X211 =>
      zb1 (zgr X211 w0 9 5) fun a214 =>
      zb1 (zsz X211 a214 0 1) fun X215 =>
      zb1 (zgr X215 w0 9 7) fun a218 =>
      zb1 (f_ZoneNodesModel_place N X215 0 3 1) fun v220 =>
      zb1 (zsz X215 a218 v220 1) fun X221 =>
      zb2 (L_ZoneNodesModel_init_280 N w0 N X221 0) fun v223 X225 =>
      zb1 (zck X225 w0 9) fun _ =>
      zb2 (f_ZoneNodesModel_rest N X225 w0 1 1) fun _ X229 =>
      zb1 (zck X229 w0 9) fun _ =>
      zb2 (f_ZoneNodesModel_rest N X229 w0 2 1) fun _ X233 =>
      zb1 (zgr X233 w0 9 11) fun a235 =>
      zb1 (zgi X233 w0 9 2) fun v237 =>
      zb1 (zsi X233 a235 1 v237) fun X238 =>
      zb1 (zgr X238 w0 9 11) fun a241 =>
      zb1 (zgi X238 w0 9 2) fun v243 =>
      zb1 (zsi X238 a241 2 v243) fun X244 =>
      some ((), X244)
def f_ZoneNodesModel_init (N : Nat) (X : zh_T) (x0 : Nat) (x1 : Int32) (x2 : Int32) (x3 : Int32) (x4 : Int32) : Option (Unit × zh_T) :=
  zb2 (zna X 1 3) fun a1 X2 =>
  zb1 (zp X2 x0 9 4 (.ref a1)) fun X4 =>
  zb2 (zna X4 1 3) fun a6 X7 =>
  zb1 (zp X7 x0 9 5 (.ref a6)) fun X9 =>
  zb2 (zna X9 0 3) fun a11 X12 =>
  zb1 (zp X12 x0 9 6 (.ref a11)) fun X14 =>
  zb2 (zna X14 1 768) fun a16 X17 =>
  zb1 (zp X17 x0 9 7 (.ref a16)) fun X19 =>
  zb2 (zna X19 1 768) fun a21 X22 =>
  zb1 (zp X22 x0 9 8 (.ref a21)) fun X24 =>
  zb2 (zna X24 0 3) fun a26 X27 =>
  zb1 (zp X27 x0 9 9 (.ref a26)) fun X29 =>
  zb2 (zna X29 0 3) fun a31 X32 =>
  zb1 (zp X32 x0 9 10 (.ref a31)) fun X34 =>
  zb2 (zna X34 0 3) fun a36 X37 =>
  zb1 (zp X37 x0 9 11 (.ref a36)) fun X39 =>
  zb2 (zna X39 1 3) fun a41 X42 =>
  zb1 (zp X42 x0 9 12 (.ref a41)) fun X44 =>
  zb2 (zna X44 0 3) fun a46 X47 =>
  zb1 (zp X47 x0 9 13 (.ref a46)) fun X49 =>
  zb2 (zna X49 0 32) fun a51 X52 =>
  zb1 (zp X52 x0 9 16 (.ref a51)) fun X54 =>
  zb2 (zna X54 0 6) fun a56 X57 =>
  zb1 (zp X57 x0 9 19 (.ref a56)) fun X59 =>
  zb2 (zna X59 1 6) fun a61 X62 =>
  zb1 (zp X62 x0 9 20 (.ref a61)) fun X64 =>
  zb2 (zna X64 1 1536) fun a66 X67 =>
  zb1 (zp X67 x0 9 21 (.ref a66)) fun X69 =>
  zb2 (zna X69 0 6) fun a71 X72 =>
  zb1 (zp X72 x0 9 22 (.ref a71)) fun X74 =>
  zb2 (zna X74 1 256) fun a76 X77 =>
  zb1 (zp X77 x0 9 23 (.ref a76)) fun X79 =>
  zb2 (zna X79 0 96) fun a81 X82 =>
  zb1 (zp X82 x0 9 25 (.ref a81)) fun X84 =>
  zb2 (zna X84 0 96) fun a86 X87 =>
  zb1 (zp X87 x0 9 26 (.ref a86)) fun X89 =>
  zb2 (zna X89 0 96) fun a91 X92 =>
  zb1 (zp X92 x0 9 27 (.ref a91)) fun X94 =>
  zb2 (zna X94 0 96) fun a96 X97 =>
  zb1 (zp X97 x0 9 28 (.ref a96)) fun X99 =>
  zb2 (zna X99 0 96) fun a101 X102 =>
  zb1 (zp X102 x0 9 29 (.ref a101)) fun X104 =>
  zb2 (zna X104 1 96) fun a106 X107 =>
  zb1 (zp X107 x0 9 30 (.ref a106)) fun X109 =>
  zb2 (zna X109 1 96) fun a111 X112 =>
  zb1 (zp X112 x0 9 31 (.ref a111)) fun X114 =>
  if x2 < 4 then
    zb1 (zp X114 x0 9 0 (.int 10)) fun X117 =>
    if x3 < 2 then
      J_ZoneNodesModel_init_222 N X117 x0 x1 x4 x0 4
    else
      if 20 < x3 then
        J_ZoneNodesModel_init_222 N X117 x0 x1 x4 x0 4
      else
        J_ZoneNodesModel_init_222 N X117 x0 x1 x4 x0 x3
  else
    if 50 < x2 then
      zb1 (zp X114 x0 9 0 (.int 10)) fun X248 =>
      if x3 < 2 then
        J_ZoneNodesModel_init_222 N X248 x0 x1 x4 x0 4
      else
        if 20 < x3 then
          J_ZoneNodesModel_init_222 N X248 x0 x1 x4 x0 4
        else
          J_ZoneNodesModel_init_222 N X248 x0 x1 x4 x0 x3
    else
      zb1 (zp X114 x0 9 0 (.int x2)) fun X252 =>
      if x3 < 2 then
        J_ZoneNodesModel_init_222 N X252 x0 x1 x4 x0 4
      else
        if 20 < x3 then
          J_ZoneNodesModel_init_222 N X252 x0 x1 x4 x0 4
        else
          J_ZoneNodesModel_init_222 N X252 x0 x1 x4 x0 x3
def f_ZoneNodesModel_isMessage (N : Nat) (X : zh_T) (x0 : Nat) (x1 : Int32) : Option Int32 :=
  if x1 < 0 then
    some 0
  else
    zb1 (zgi X x0 9 24) fun v3 =>
    if v3 ≤ x1 then
      some 0
    else
      some 1
def f_ZoneNodesModel_alter (N : Nat) (X : zh_T) (x0 : Nat) (x1 : Int32) : Option (Int32 × zh_T) :=
  zb1 (zck X x0 9) fun _ =>
  zb1 (f_ZoneNodesModel_isMessage N X x0 x1) fun v3 =>
  if v3 = 0 then
    some (0, X)
  else
    zb1 (zgr X x0 9 25) fun a6 =>
    zb1 (zai X a6 x1) fun v7 =>
    if v7 = 5 then
      zb1 (zgr X x0 9 30) fun a11 =>
      zb1 (zaz X a11 x1) fun v12 =>
      if v12 = 0 then
        zb1 (zgr X x0 9 30) fun a16 =>
        zb1 (zsz X a16 x1 1) fun X17 =>
        some (1, X17)
      else
        some (0, X)
    else
      some (0, X)
def f_ZoneNodesModel_arm (N : Nat) (X : zh_T) (x0 : Nat) (x1 : Int32) : Option (Int32 × zh_T) :=
  if x1 < 0 then
    some (0, X)
  else
    if 3 < x1 then
      some (0, X)
    else
      zb1 (zgr X x0 9 4) fun a4 =>
      zb1 (zaz X a4 0) fun v5 =>
      if v5 = 0 then
        some (0, X)
      else
        zb1 (zp X x0 9 17 (.int x1)) fun X8 =>
        some (1, X8)
def f_ZoneNodesModel_isRecord (N : Nat) (X : zh_T) (x0 : Int32) (x1 : Int32) (x2 : Int32) : Option Int32 :=
  if x0 < 0 then
    some 0
  else
    if 7 < x0 then
      some 0
    else
      if x1 < 1 then
        some 0
      else
        if 4 < x1 then
          some 0
        else
          if x2 < 0 then
            some 0
          else
            if 7 < x2 then
              some 0
            else
              some 1
def f_ZoneNodesModel_say (N : Nat) (X : zh_T) (x0 : Nat) (x1 : Int32) (x2 : Int32) (x3 : Int32) (x4 : Int32) (x5 : Int32) : Option (Unit × zh_T) :=
  zb1 (zgr X x0 9 16) fun a2 =>
  zb1 (zsi X a2 (4 * x1) x2) fun X3 =>
  zb1 (zgr X3 x0 9 16) fun a6 =>
  zb1 (zsi X3 a6 ((4 * x1) + 1) x3) fun X7 =>
  zb1 (zgr X7 x0 9 16) fun a10 =>
  zb1 (zsi X7 a10 ((4 * x1) + 2) x4) fun X11 =>
  zb1 (zgr X11 x0 9 16) fun a14 =>
  zb1 (zsi X11 a14 ((4 * x1) + 3) x5) fun X15 =>
  some ((), X15)
def f_ZoneNodesModel_change (N : Nat) (X : zh_T) (x0 : Nat) (x1 : Int32) (x2 : Int32) (x3 : Int32) (x4 : Int32) : Option (Int32 × zh_T) :=
  if x1 < 0 then
    some (0, X)
  else
    if 3 < x1 then
      some (0, X)
    else
      zb1 (f_ZoneNodesModel_isRecord N X x2 x3 x4) fun v4 =>
      if v4 = 0 then
        some (0, X)
      else
        zb1 (zgi X x0 9 15) fun v7 =>
        if v7 < 4 then
          zb1 (zgi X x0 9 15) fun v10 =>
          zb1 (zck X x0 9) fun _ =>
          zb2 (f_ZoneNodesModel_say N X x0 (4 + v10) x1 x2 x3 x4) fun _ X14 =>
          zb1 (zgi X14 x0 9 15) fun v16 =>
          zb1 (zp X14 x0 9 15 (.int (v16 + 1))) fun X17 =>
          some (1, X17)
        else
          some (0, X)
def L_ZoneNodesModel_remove_12 (N : Nat) (w0 : Nat) : Nat → zh_T → Int32 → Option (Unit × zh_T)
  | 0, _, _ => none
  | n + 1, X, w2 =>
    zb1 (zgi X w0 9 24) fun v6 =>
    if v6 ≤ w2 then
      some ((), X)
    else
      zb1 (zgr X w0 9 25) fun a9 =>
      zb1 (zgr X w0 9 25) fun a11 =>
      zb1 (zai X a11 (w2 + 1)) fun v12 =>
      zb1 (zsi X a9 w2 v12) fun X14 =>
      zb1 (zgr X14 w0 9 26) fun a17 =>
      zb1 (zgr X14 w0 9 26) fun a19 =>
      zb1 (zai X14 a19 (w2 + 1)) fun v20 =>
      zb1 (zsi X14 a17 w2 v20) fun X22 =>
      zb1 (zgr X22 w0 9 27) fun a25 =>
      zb1 (zgr X22 w0 9 27) fun a27 =>
      zb1 (zai X22 a27 (w2 + 1)) fun v28 =>
      zb1 (zsi X22 a25 w2 v28) fun X30 =>
      zb1 (zgr X30 w0 9 28) fun a33 =>
      zb1 (zgr X30 w0 9 28) fun a35 =>
      zb1 (zai X30 a35 (w2 + 1)) fun v36 =>
      zb1 (zsi X30 a33 w2 v36) fun X38 =>
      zb1 (zgr X38 w0 9 29) fun a41 =>
      zb1 (zgr X38 w0 9 29) fun a43 =>
      zb1 (zai X38 a43 (w2 + 1)) fun v44 =>
      zb1 (zsi X38 a41 w2 v44) fun X46 =>
      zb1 (zgr X46 w0 9 30) fun a49 =>
      zb1 (zgr X46 w0 9 30) fun a51 =>
      zb1 (zaz X46 a51 (w2 + 1)) fun v52 =>
      zb1 (zsz X46 a49 w2 v52) fun X54 =>
      zb1 (zgr X54 w0 9 31) fun a57 =>
      zb1 (zgr X54 w0 9 31) fun a59 =>
      zb1 (zaz X54 a59 (w2 + 1)) fun v60 =>
      zb1 (zsz X54 a57 w2 v60) fun X62 =>
      L_ZoneNodesModel_remove_12 N w0 n X62 (w2 + 1)
def f_ZoneNodesModel_remove (N : Nat) (X : zh_T) (x0 : Nat) (x1 : Int32) : Option (Unit × zh_T) :=
  zb1 (zgi X x0 9 24) fun v2 =>
  zb1 (zp X x0 9 24 (.int (v2 - 1))) fun X3 =>
  zb2 (L_ZoneNodesModel_remove_12 N x0 N X3 x1) fun v64 X66 =>
  some ((), X66)
def L_ZoneNodesModel_cutOff_7 (N : Nat) (w0 : Nat) (w1 : Int32) : Nat → zh_T → Int32 → Option (Unit × zh_T)
  | 0, _, _ => none
  | n + 1, X, w2 =>
    if w2 < 0 then
      some ((), X)
    else
      zb1 (zgr X w0 9 25) fun a5 =>
      zb1 (zai X a5 w2) fun v6 =>
      if v6 < 4 then
        L_ZoneNodesModel_cutOff_7 N w0 w1 n X (w2 + (-1))
      else
        zb1 (zgr X w0 9 26) fun a10 =>
        zb1 (zai X a10 w2) fun v11 =>
        if v11 = w1 then
          zb1 (zck X w0 9) fun _ =>
          zb2 (f_ZoneNodesModel_remove N X w0 w2) fun _ X17 =>
          L_ZoneNodesModel_cutOff_7 N w0 w1 n X17 (w2 + (-1))
        else
          L_ZoneNodesModel_cutOff_7 N w0 w1 n X (w2 + (-1))
def f_ZoneNodesModel_cutOff (N : Nat) (X : zh_T) (x0 : Nat) (x1 : Int32) : Option (Unit × zh_T) :=
  zb1 (zgi X x0 9 24) fun v2 =>
  zb2 (L_ZoneNodesModel_cutOff_7 N x0 x1 N X (v2 - 1)) fun v18 X20 =>
  some ((), X20)
def f_ZoneNodesModel_isNode (N : Nat) (X : zh_T) (x0 : Int32) : Option Int32 :=
  if x0 < 0 then
    some 0
  else
    if 2 < x0 then
      some 0
    else
      some 1
def L_ZoneNodesModel_crash_43 (N : Nat) (w0 : Nat) (w1 : Int32) : Nat → zh_T → Int32 → Option (Unit × zh_T)
  | 0, _, _ => none
  | n + 1, X, w2 =>
    if 2 < w2 then
      some ((), X)
    else
      if w1 = 0 then
        zb1 (zck X w0 9) fun _ =>
        zb2 (f_ZoneNodesModel_cutOff N X w0 w2) fun _ X23 =>
        if w1 = 0 then
          zb1 (zgr X23 w0 9 4) fun a26 =>
          zb1 (zaz X23 a26 w2) fun v27 =>
          if v27 = 0 then
            L_ZoneNodesModel_crash_43 N w0 w1 n X23 (w2 + 1)
          else
            zb1 (zgr X23 w0 9 9) fun a31 =>
            zb1 (zai X23 a31 w2) fun v32 =>
            if v32 = 2 then
              zb1 (zgi X23 w0 9 1) fun v36 =>
              zb1 (zck X23 w0 9) fun _ =>
              zb2 (f_ZoneNodesModel_rest N X23 w0 w2 v36) fun _ X40 =>
              L_ZoneNodesModel_crash_43 N w0 w1 n X40 (w2 + 1)
            else
              L_ZoneNodesModel_crash_43 N w0 w1 n X23 (w2 + 1)
        else
          L_ZoneNodesModel_crash_43 N w0 w1 n X23 (w2 + 1)
      else
        if w1 = w2 then
          zb1 (zck X w0 9) fun _ =>
          zb2 (f_ZoneNodesModel_cutOff N X w0 w2) fun _ X62 =>
          if w1 = 0 then
            zb1 (zgr X62 w0 9 4) fun a65 =>
            zb1 (zaz X62 a65 w2) fun v66 =>
            if v66 = 0 then
              L_ZoneNodesModel_crash_43 N w0 w1 n X62 (w2 + 1)
            else
              zb1 (zgr X62 w0 9 9) fun a70 =>
              zb1 (zai X62 a70 w2) fun v71 =>
              if v71 = 2 then
                zb1 (zgi X62 w0 9 1) fun v75 =>
                zb1 (zck X62 w0 9) fun _ =>
                zb2 (f_ZoneNodesModel_rest N X62 w0 w2 v75) fun _ X79 =>
                L_ZoneNodesModel_crash_43 N w0 w1 n X79 (w2 + 1)
              else
                L_ZoneNodesModel_crash_43 N w0 w1 n X62 (w2 + 1)
          else
            L_ZoneNodesModel_crash_43 N w0 w1 n X62 (w2 + 1)
        else
          if w1 = 0 then
            zb1 (zgr X w0 9 4) fun a44 =>
            zb1 (zaz X a44 w2) fun v45 =>
            if v45 = 0 then
              L_ZoneNodesModel_crash_43 N w0 w1 n X (w2 + 1)
            else
              zb1 (zgr X w0 9 9) fun a49 =>
              zb1 (zai X a49 w2) fun v50 =>
              if v50 = 2 then
                zb1 (zgi X w0 9 1) fun v54 =>
                zb1 (zck X w0 9) fun _ =>
                zb2 (f_ZoneNodesModel_rest N X w0 w2 v54) fun _ X58 =>
                L_ZoneNodesModel_crash_43 N w0 w1 n X58 (w2 + 1)
              else
                L_ZoneNodesModel_crash_43 N w0 w1 n X (w2 + 1)
          else
            L_ZoneNodesModel_crash_43 N w0 w1 n X (w2 + 1)
def f_ZoneNodesModel_crash (N : Nat) (X : zh_T) (x0 : Nat) (x1 : Int32) : Option (Int32 × zh_T) :=
  zb1 (f_ZoneNodesModel_isNode N X x1) fun v2 =>
  if v2 = 0 then
    some (0, X)
  else
    zb1 (zgr X x0 9 4) fun a5 =>
    zb1 (zaz X a5 x1) fun v6 =>
    if v6 = 0 then
      some (0, X)
    else
      zb1 (zgr X x0 9 4) fun a10 =>
      zb1 (zsz X a10 x1 0) fun X11 =>
      if x1 = 0 then
        zb1 (zp X11 x0 9 17 (.int 0)) fun X83 =>
        zb2 (L_ZoneNodesModel_crash_43 N x0 x1 N X83 1) fun v85 X87 =>
        some (1, X87)
      else
        zb1 (zgi X11 x0 9 17) fun v15 =>
        zb1 (zp X11 x0 9 17 (.int v15)) fun X16 =>
        zb2 (L_ZoneNodesModel_crash_43 N x0 x1 N X16 1) fun v80 X82 =>
        some (1, X82)
def f_ZoneNodesModel_append (N : Nat) (X : zh_T) (x0 : Nat) (x1 : Int32) (x2 : Int32) (x3 : Int32) (x4 : Int32) (x5 : Int32) (x6 : Int32) (x7 : Int32) : Option (Unit × zh_T) :=
  zb1 (zgr X x0 9 25) fun a2 =>
  zb1 (zgi X x0 9 24) fun v4 =>
  zb1 (zsi X a2 v4 x1) fun X5 =>
  zb1 (zgr X5 x0 9 26) fun a8 =>
  zb1 (zgi X5 x0 9 24) fun v10 =>
  zb1 (zsi X5 a8 v10 x2) fun X11 =>
  zb1 (zgr X11 x0 9 27) fun a14 =>
  zb1 (zgi X11 x0 9 24) fun v16 =>
  zb1 (zsi X11 a14 v16 x3) fun X17 =>
  zb1 (zgr X17 x0 9 28) fun a20 =>
  zb1 (zgi X17 x0 9 24) fun v22 =>
  zb1 (zsi X17 a20 v22 x4) fun X23 =>
  zb1 (zgr X23 x0 9 29) fun a26 =>
  zb1 (zgi X23 x0 9 24) fun v28 =>
  zb1 (zsi X23 a26 v28 x5) fun X29 =>
  zb1 (zgr X29 x0 9 30) fun a32 =>
  zb1 (zgi X29 x0 9 24) fun v34 =>
  zb1 (zsz X29 a32 v34 x6) fun X35 =>
  zb1 (zgr X35 x0 9 31) fun a38 =>
  zb1 (zgi X35 x0 9 24) fun v40 =>
  zb1 (zsz X35 a38 v40 x7) fun X41 =>
  zb1 (zgi X41 x0 9 24) fun v44 =>
  zb1 (zp X41 x0 9 24 (.int (v44 + 1))) fun X45 =>
  some ((), X45)
def L_ZoneNodesModel_send_6 (N : Nat) (X : zh_T) (w0 : Nat) (w1 : Int32) (w2 : Int32) (w3 : Int32) : Nat → Int32 → Int32 → Option Int32
  | 0, _, _ => none
  | n + 1, w4, w5 =>
    zb1 (zgi X w0 9 24) fun v2 =>
    if v2 ≤ w5 then
      some w4
    else
      zb1 (zgr X w0 9 25) fun a5 =>
      zb1 (zai X a5 w5) fun v6 =>
      if 4 ≤ v6 then
        L_ZoneNodesModel_send_6 N X w0 w1 w2 w3 n (w4 + 0) (w5 + 1)
      else
        L_ZoneNodesModel_send_6 N X w0 w1 w2 w3 n (w4 + 1) (w5 + 1)
def f_ZoneNodesModel_send (N : Nat) (X : zh_T) (x0 : Nat) (x1 : Int32) (x2 : Int32) (x3 : Int32) : Option (Unit × zh_T) :=
  zb1 (L_ZoneNodesModel_send_6 N X x0 x1 x2 x3 N 0 0) fun v9 =>
  if 24 ≤ v9 then
    some ((), X)
  else
    zb1 (zck X x0 9) fun _ =>
    zb2 (f_ZoneNodesModel_append N X x0 x1 x2 x3 0 0 0 0) fun _ X15 =>
    some ((), X15)
def f_ZoneNodesModel_ask (N : Nat) (X : zh_T) (x0 : Nat) (x1 : Int32) : Option (Unit × zh_T) :=
  zb1 (zck X x0 9) fun _ =>
  zb2 (f_ZoneNodesModel_send N X x0 2 x1 0) fun _ X4 =>
  zb1 (zgr X4 x0 9 9) fun a6 =>
  zb1 (zsi X4 a6 x1 1) fun X7 =>
  zb1 (zgr X7 x0 9 10) fun a10 =>
  zb1 (zgi X7 x0 9 3) fun v12 =>
  zb1 (zsi X7 a10 x1 v12) fun X13 =>
  some ((), X13)
def f_ZoneNodesModel_isNews (N : Nat) (X : zh_T) (x0 : Nat) (x1 : Int32) (x2 : Int32) : Option Int32 :=
  zb1 (zgr X x0 9 5) fun a2 =>
  zb1 (zaz X a2 x1) fun v3 =>
  if v3 = 0 then
    some 1
  else
    zb1 (zgr X x0 9 6) fun a7 =>
    zb1 (zai X a7 x1) fun v8 =>
    if (x2 - v8) ≤ 0 then
      some 0
    else
      some 1
def L_ZoneNodesModel_itemsFor_5 (N : Nat) (X : zh_T) (w0 : Nat) (w1 : Int32) (w2 : Int32) : Nat → Int32 → Int32 → Option Int32
  | 0, _, _ => none
  | n + 1, w3, w4 =>
    zb1 (zgi X w0 9 18) fun v2 =>
    if v2 ≤ w4 then
      some w3
    else
      if w1 = 0 then
        L_ZoneNodesModel_itemsFor_5 N X w0 w1 w2 n w3 (w4 + 1)
      else
        zb1 (zgr X w0 9 19) fun a6 =>
        zb1 (zai X a6 w4) fun v7 =>
        if v7 = w2 then
          L_ZoneNodesModel_itemsFor_5 N X w0 w1 w2 n w4 (w4 + 1)
        else
          L_ZoneNodesModel_itemsFor_5 N X w0 w1 w2 n w3 (w4 + 1)
def L_ZoneNodesModel_itemsFor_48 (N : Nat) (X : zh_T) (w0 : Nat) (w3 : Int32) : Nat → Int32 → Int32 → Option Int32
  | 0, _, _ => none
  | n + 1, w4, w5 =>
    zb1 (zgi X w0 9 18) fun v13 =>
    if v13 ≤ w5 then
      some w4
    else
      if w3 < 0 then
        L_ZoneNodesModel_itemsFor_48 N X w0 w3 n (w4 + 0) (w5 + 1)
      else
        if w5 < w3 then
          L_ZoneNodesModel_itemsFor_48 N X w0 w3 n (w4 + 0) (w5 + 1)
        else
          zb1 (zgr X w0 9 22) fun a18 =>
          zb1 (zai X a18 w5) fun v19 =>
          L_ZoneNodesModel_itemsFor_48 N X w0 w3 n (w4 + v19) (w5 + 1)
def L_ZoneNodesModel_itemsFor_92 (N : Nat) (X : zh_T) (w0 : Nat) (w3 : Int32) : Nat → Int32 → Int32 → Option Int32
  | 0, _, _ => none
  | n + 1, w4, w5 =>
    if 256 ≤ w5 then
      some w4
    else
      if 0 ≤ w3 then
        L_ZoneNodesModel_itemsFor_92 N X w0 w3 n (w4 + 0) (w5 + 1)
      else
        zb1 (zgr X w0 9 7) fun a26 =>
        zb1 (zaz X a26 w5) fun v27 =>
        if v27 = 0 then
          L_ZoneNodesModel_itemsFor_92 N X w0 w3 n (w4 + 0) (w5 + 1)
        else
          L_ZoneNodesModel_itemsFor_92 N X w0 w3 n (w4 + 1) (w5 + 1)
def f_ZoneNodesModel_itemsFor (N : Nat) (X : zh_T) (x0 : Nat) (x1 : Int32) (x2 : Int32) : Option Int32 :=
  zb1 (L_ZoneNodesModel_itemsFor_5 N X x0 x1 x2 N (-1) 0) fun v10 =>
  zb1 (L_ZoneNodesModel_itemsFor_48 N X x0 v10 N 0 0) fun v21 =>
  zb1 (L_ZoneNodesModel_itemsFor_92 N X x0 v10 N v21 0) fun v30 =>
  some v30
def L_ZoneNodesModel_takeFetch_11 (N : Nat) (w0 : Nat) (w1 : Int32) (w4 : Int32) : Nat → zh_T → Int32 → Option (Unit × zh_T)
  | 0, _, _ => none
  | n + 1, X, w5 =>
    if 256 ≤ w5 then
      some ((), X)
    else
      zb1 (zgr X w0 9 8) fun a6 =>
      zb1 (zgr X w0 9 7) fun a8 =>
      zb1 (zaz X a8 w5) fun v9 =>
      zb1 (zsz X a6 ((256 * w1) + w5) v9) fun X11 =>
      L_ZoneNodesModel_takeFetch_11 N w0 w1 w4 n X11 (w5 + 1)
def L_ZoneNodesModel_takeFetch_48 (N : Nat) (w0 : Nat) (w1 : Int32) (w4 : Int32) : Nat → zh_T → Int32 → Option (Unit × zh_T)
  | 0, _, _ => none
  | n + 1, X, w5 =>
    if w4 ≤ (4 * w5) then
      some ((), X)
    else
      zb1 (zgr X w0 9 6) fun a18 =>
      zb1 (zai X a18 0) fun v19 =>
      if 4 ≤ (w4 - (4 * w5)) then
        if 4 < (w4 - (4 * w5)) then
          zb1 (zck X w0 9) fun _ =>
          zb2 (f_ZoneNodesModel_append N X w0 5 w1 v19 w5 4 0 0) fun _ X26 =>
          L_ZoneNodesModel_takeFetch_48 N w0 w1 w4 n X26 (w5 + 1)
        else
          zb1 (zck X w0 9) fun _ =>
          zb2 (f_ZoneNodesModel_append N X w0 5 w1 v19 w5 4 0 1) fun _ X30 =>
          L_ZoneNodesModel_takeFetch_48 N w0 w1 w4 n X30 (w5 + 1)
      else
        if 4 < (w4 - (4 * w5)) then
          zb1 (zck X w0 9) fun _ =>
          zb2 (f_ZoneNodesModel_append N X w0 5 w1 v19 w5 (w4 - (4 * w5)) 0 0) fun _ X35 =>
          L_ZoneNodesModel_takeFetch_48 N w0 w1 w4 n X35 (w5 + 1)
        else
          zb1 (zck X w0 9) fun _ =>
          zb2 (f_ZoneNodesModel_append N X w0 5 w1 v19 w5 (w4 - (4 * w5)) 0 1) fun _ X39 =>
          L_ZoneNodesModel_takeFetch_48 N w0 w1 w4 n X39 (w5 + 1)
def f_ZoneNodesModel_takeFetch (N : Nat) (X : zh_T) (x0 : Nat) (x1 : Int32) (x2 : Int32) (x3 : Int32) : Option (Unit × zh_T) :=
  zb1 (zck X x0 9) fun _ =>
  zb1 (f_ZoneNodesModel_itemsFor N X x0 x2 x3) fun v3 =>
  zb2 (L_ZoneNodesModel_takeFetch_11 N x0 x1 v3 N X 0) fun v13 X15 =>
  zb2 (L_ZoneNodesModel_takeFetch_48 N x0 x1 v3 N X15 0) fun v40 X42 =>
  some ((), X42)
def f_ZoneNodesModel_refreshed (N : Nat) (X : zh_T) (x0 : Nat) (x1 : Int32) : Option (Unit × zh_T) :=
  zb1 (zgi X x0 9 0) fun v2 =>
  zb1 (zck X x0 9) fun _ =>
  zb2 (f_ZoneNodesModel_rest N X x0 x1 v2) fun _ X6 =>
  zb1 (zgr X6 x0 9 11) fun a8 =>
  zb1 (zgi X6 x0 9 3) fun v10 =>
  zb1 (zgi X6 x0 9 2) fun v12 =>
  zb1 (zsi X6 a8 x1 (v10 + v12)) fun X13 =>
  some ((), X13)
def L_ZoneNodesModel_takePart_43 (N : Nat) (w0 : Nat) (w1 : Int32) : Nat → zh_T → Int32 → Option (Unit × zh_T)
  | 0, _, _ => none
  | n + 1, X, w5 =>
    if 256 ≤ w5 then
      some ((), X)
    else
      zb1 (zgr X w0 9 7) fun a13 =>
      zb1 (zgr X w0 9 8) fun a15 =>
      zb1 (zaz X a15 ((256 * w1) + w5)) fun v16 =>
      zb1 (zsz X a13 ((256 * w1) + w5) v16) fun X18 =>
      L_ZoneNodesModel_takePart_43 N w0 w1 n X18 (w5 + 1)
def f_ZoneNodesModel_takePart (N : Nat) (X : zh_T) (x0 : Nat) (x1 : Int32) (x2 : Int32) (x3 : Int32) (x4 : Int32) : Option (Unit × zh_T) :=
  if x3 = 0 then
    if x4 = 0 then
      some ((), X)
    else
      zb1 (zgr X x0 9 5) fun a4 =>
      zb1 (zsz X a4 x1 1) fun X5 =>
      zb1 (zgr X5 x0 9 6) fun a8 =>
      zb1 (zsi X5 a8 x1 x2) fun X9 =>
      zb2 (L_ZoneNodesModel_takePart_43 N x0 x1 N X9 0) fun v20 X22 =>
      zb1 (zck X22 x0 9) fun _ =>
      zb2 (f_ZoneNodesModel_refreshed N X22 x0 x1) fun _ X26 =>
      some ((), X26)
  else
    zb1 (zck X x0 9) fun _ =>
    zb2 (f_ZoneNodesModel_cutOff N X x0 x1) fun _ X30 =>
    zb1 (zgi X30 x0 9 1) fun v32 =>
    zb1 (zck X30 x0 9) fun _ =>
    zb2 (f_ZoneNodesModel_rest N X30 x0 x1 v32) fun _ X36 =>
    some ((), X36)
def f_ZoneNodesModel_takeTell (N : Nat) (X : zh_T) (x0 : Nat) (x1 : Int32) (x2 : Int32) : Option (Unit × zh_T) :=
  zb1 (zgr X x0 9 9) fun a2 =>
  zb1 (zai X a2 x1) fun v3 =>
  if v3 = 1 then
    zb1 (zck X x0 9) fun _ =>
    zb1 (f_ZoneNodesModel_isNews N X x0 x1 x2) fun v8 =>
    if v8 = 0 then
      zb1 (zck X x0 9) fun _ =>
      zb2 (f_ZoneNodesModel_refreshed N X x0 x1) fun _ X40 =>
      some ((), X40)
    else
      zb1 (zgr X x0 9 4) fun a11 =>
      zb1 (zaz X a11 0) fun v12 =>
      if v12 = 0 then
        zb1 (zgi X x0 9 1) fun v32 =>
        zb1 (zck X x0 9) fun _ =>
        zb2 (f_ZoneNodesModel_rest N X x0 x1 v32) fun _ X36 =>
        some ((), X36)
      else
        zb1 (zgr X x0 9 6) fun a16 =>
        zb1 (zai X a16 x1) fun v17 =>
        zb1 (zgr X x0 9 5) fun a20 =>
        zb1 (zaz X a20 x1) fun v21 =>
        zb1 (zck X x0 9) fun _ =>
        zb2 (f_ZoneNodesModel_append N X x0 4 x1 v17 0 0 v21 0) fun _ X26 =>
        zb1 (zgr X26 x0 9 9) fun a28 =>
        zb1 (zsi X26 a28 x1 2) fun X29 =>
        some ((), X29)
  else
    some ((), X)
def L_ZoneNodesModel_deliver_51 (N : Nat) (X : zh_T) (w0 : Nat) (w1 : Int32) (w2 : Int32) (w3 : Int32) (w4 : Int32) (w5 : Int32) (w6 : Int32) : Nat → Int32 → Option (Int32 ⊕ Unit)
  | 0, _ => none
  | n + 1, w7 =>
    if w1 ≤ w7 then
      some (Sum.inr ())
    else
      if w2 = 5 then
        zb1 (zgr X w0 9 25) fun a28 =>
        zb1 (zai X a28 w7) fun v29 =>
        if v29 = 5 then
          zb1 (zgr X w0 9 26) fun a33 =>
          zb1 (zai X a33 w7) fun v34 =>
          if v34 = w3 then
            some (Sum.inl 0)
          else
            L_ZoneNodesModel_deliver_51 N X w0 w1 w2 w3 w4 w5 w6 n (w7 + 1)
        else
          L_ZoneNodesModel_deliver_51 N X w0 w1 w2 w3 w4 w5 w6 n (w7 + 1)
      else
        L_ZoneNodesModel_deliver_51 N X w0 w1 w2 w3 w4 w5 w6 n (w7 + 1)
def J_ZoneNodesModel_deliver_184 (N : Nat) (X : zh_T) (w0 : Nat) (w2 : Int32) (w3 : Int32) (w4 : Int32) (w5 : Int32) (w6 : Int32) : Option (Int32 × zh_T) :=
  if w2 = 4 then
    zb1 (zck X w0 9) fun _ =>
    zb2 (f_ZoneNodesModel_takeFetch N X w0 w3 w5 w4) fun _ X61 =>
    if w2 = 5 then
      zb1 (zck X61 w0 9) fun _ =>
      zb2 (f_ZoneNodesModel_takePart N X61 w0 w3 w4 w5 w6) fun _ X66 =>
      some (1, X66)
    else
      some (1, X61)
  else
    if w2 = 5 then
      zb1 (zck X w0 9) fun _ =>
      zb2 (f_ZoneNodesModel_takePart N X w0 w3 w4 w5 w6) fun _ X57 =>
      some (1, X57)
    else
      some (1, X)
def J_ZoneNodesModel_deliver_155 (N : Nat) (X : zh_T) (w0 : Nat) (w2 : Int32) (w3 : Int32) (w4 : Int32) (w5 : Int32) (w6 : Int32) : Option (Int32 × zh_T) :=
  if w2 = 2 then
    zb1 (zgr X w0 9 6) fun a72 =>
    zb1 (zai X a72 0) fun v73 =>
    zb1 (zck X w0 9) fun _ =>
    zb2 (f_ZoneNodesModel_send N X w0 3 w3 v73) fun _ X78 =>
    if w2 = 3 then
      zb1 (zck X78 w0 9) fun _ =>
      zb2 (f_ZoneNodesModel_takeTell N X78 w0 w3 w4) fun _ X83 =>
      J_ZoneNodesModel_deliver_184 N X83 w0 w2 w3 w4 w5 w6
    else
      J_ZoneNodesModel_deliver_184 N X78 w0 w2 w3 w4 w5 w6
  else
    if w2 = 3 then
      zb1 (zck X w0 9) fun _ =>
      zb2 (f_ZoneNodesModel_takeTell N X w0 w3 w4) fun _ X70 =>
      J_ZoneNodesModel_deliver_184 N X70 w0 w2 w3 w4 w5 w6
    else
      J_ZoneNodesModel_deliver_184 N X w0 w2 w3 w4 w5 w6
def f_ZoneNodesModel_deliver (N : Nat) (X : zh_T) (x0 : Nat) (x1 : Int32) : Option (Int32 × zh_T) :=
  zb1 (zck X x0 9) fun _ =>
  zb1 (f_ZoneNodesModel_isMessage N X x0 x1) fun v3 =>
  if v3 = 0 then
    some (0, X)
  else
    zb1 (zgr X x0 9 25) fun a6 =>
    zb1 (zai X a6 x1) fun v7 =>
    zb1 (zgr X x0 9 26) fun a10 =>
    zb1 (zai X a10 x1) fun v11 =>
    zb1 (zgr X x0 9 27) fun a14 =>
    zb1 (zai X a14 x1) fun v15 =>
    zb1 (zgr X x0 9 30) fun a18 =>
    zb1 (zaz X a18 x1) fun v19 =>
    zb1 (zgr X x0 9 31) fun a22 =>
    zb1 (zaz X a22 x1) fun v23 =>
    zbs (L_ZoneNodesModel_deliver_51 N X x0 x1 v7 v11 v15 v19 v23 N 0) (fun r0 => some (r0, X)) fun v37 =>
    zb1 (zck X x0 9) fun _ =>
    zb2 (f_ZoneNodesModel_remove N X x0 x1) fun _ X42 =>
    if v7 = 2 then
      zb1 (zgr X42 x0 9 4) fun a45 =>
      zb1 (zaz X42 a45 0) fun v46 =>
      if v46 = 0 then
        some (1, X42)
      else
        if v7 = 1 then
          zb1 (zgr X42 x0 9 9) fun a85 =>
          zb1 (zai X42 a85 v11) fun v86 =>
          if v86 = 0 then
            zb1 (zck X42 x0 9) fun _ =>
            zb1 (f_ZoneNodesModel_isNews N X42 x0 v11 v15) fun v91 =>
            if v91 = 0 then
              J_ZoneNodesModel_deliver_155 N X42 x0 v7 v11 v15 v19 v23
            else
              zb1 (zck X42 x0 9) fun _ =>
              zb2 (f_ZoneNodesModel_ask N X42 x0 v11) fun _ X96 =>
              J_ZoneNodesModel_deliver_155 N X96 x0 v7 v11 v15 v19 v23
          else
            J_ZoneNodesModel_deliver_155 N X42 x0 v7 v11 v15 v19 v23
        else
          J_ZoneNodesModel_deliver_155 N X42 x0 v7 v11 v15 v19 v23
    else
      if v7 = 4 then
        zb1 (zgr X42 x0 9 4) fun a118 =>
        zb1 (zaz X42 a118 0) fun v119 =>
        if v119 = 0 then
          some (1, X42)
        else
          if v7 = 1 then
            zb1 (zgr X42 x0 9 9) fun a124 =>
            zb1 (zai X42 a124 v11) fun v125 =>
            if v125 = 0 then
              zb1 (zck X42 x0 9) fun _ =>
              zb1 (f_ZoneNodesModel_isNews N X42 x0 v11 v15) fun v130 =>
              if v130 = 0 then
                J_ZoneNodesModel_deliver_155 N X42 x0 v7 v11 v15 v19 v23
              else
                zb1 (zck X42 x0 9) fun _ =>
                zb2 (f_ZoneNodesModel_ask N X42 x0 v11) fun _ X135 =>
                J_ZoneNodesModel_deliver_155 N X135 x0 v7 v11 v15 v19 v23
            else
              J_ZoneNodesModel_deliver_155 N X42 x0 v7 v11 v15 v19 v23
          else
            J_ZoneNodesModel_deliver_155 N X42 x0 v7 v11 v15 v19 v23
      else
        zb1 (zgr X42 x0 9 4) fun a99 =>
        zb1 (zaz X42 a99 v11) fun v100 =>
        if v100 = 0 then
          some (1, X42)
        else
          if v7 = 1 then
            zb1 (zgr X42 x0 9 9) fun a105 =>
            zb1 (zai X42 a105 v11) fun v106 =>
            if v106 = 0 then
              zb1 (zck X42 x0 9) fun _ =>
              zb1 (f_ZoneNodesModel_isNews N X42 x0 v11 v15) fun v111 =>
              if v111 = 0 then
                J_ZoneNodesModel_deliver_155 N X42 x0 v7 v11 v15 v19 v23
              else
                zb1 (zck X42 x0 9) fun _ =>
                zb2 (f_ZoneNodesModel_ask N X42 x0 v11) fun _ X116 =>
                J_ZoneNodesModel_deliver_155 N X116 x0 v7 v11 v15 v19 v23
            else
              J_ZoneNodesModel_deliver_155 N X42 x0 v7 v11 v15 v19 v23
          else
            J_ZoneNodesModel_deliver_155 N X42 x0 v7 v11 v15 v19 v23
def f_ZoneNodesModel_drop (N : Nat) (X : zh_T) (x0 : Nat) (x1 : Int32) : Option (Int32 × zh_T) :=
  zb1 (zck X x0 9) fun _ =>
  zb1 (f_ZoneNodesModel_isMessage N X x0 x1) fun v3 =>
  if v3 = 0 then
    some (0, X)
  else
    zb1 (zgr X x0 9 25) fun a6 =>
    zb1 (zai X a6 x1) fun v7 =>
    if v7 < 4 then
      zb1 (zck X x0 9) fun _ =>
      zb2 (f_ZoneNodesModel_remove N X x0 x1) fun _ X13 =>
      some (1, X13)
    else
      some (0, X)
def f_ZoneNodesModel_has (N : Nat) (X : zh_T) (x0 : Nat) (x1 : Int32) (x2 : Int32) (x3 : Int32) (x4 : Int32) : Option Int32 :=
  zb1 (f_ZoneNodesModel_isNode N X x1) fun v2 =>
  if v2 = 0 then
    some 0
  else
    zb1 (zgr X x0 9 5) fun a5 =>
    zb1 (zaz X a5 x1) fun v6 =>
    if v6 = 0 then
      some 0
    else
      zb1 (f_ZoneNodesModel_isRecord N X x2 x3 x4) fun v10 =>
      if v10 = 0 then
        some 0
      else
        zb1 (zgr X x0 9 7) fun a13 =>
        zb1 (f_ZoneNodesModel_place N X x2 x3 x4) fun v15 =>
        zb1 (zaz X a13 ((256 * x1) + v15)) fun v16 =>
        if v16 = 0 then
          some 0
        else
          some 1
def f_ZoneNodesModel_journal (N : Nat) (X : zh_T) (x0 : Nat) : Option Int32 :=
  zb1 (zgi X x0 9 18) fun v2 =>
  some v2
def f_ZoneNodesModel_key (N : Nat) (X : zh_T) (x0 : Nat) (x1 : Int32) (x2 : Int32) : Option (Int32 × zh_T) :=
  if x1 < 0 then
    some (0, X)
  else
    if x1 ≤ 2 then
      zb1 (zgr X x0 9 12) fun a4 =>
      zb1 (zsz X a4 x1 1) fun X5 =>
      zb1 (zgr X5 x0 9 13) fun a8 =>
      zb1 (zsi X5 a8 x1 x2) fun X9 =>
      some (1, X9)
    else
      some (0, X)
def f_ZoneNodesModel_message (N : Nat) (X : zh_T) (x0 : Nat) (x1 : Int32) : Option Int32 :=
  zb1 (zck X x0 9) fun _ =>
  zb1 (f_ZoneNodesModel_isMessage N X x0 x1) fun v3 =>
  if v3 = 0 then
    some (-1)
  else
    zb1 (zgr X x0 9 25) fun a6 =>
    zb1 (zai X a6 x1) fun v7 =>
    zb1 (zgr X x0 9 26) fun a10 =>
    zb1 (zai X a10 x1) fun v11 =>
    zb1 (zgr X x0 9 28) fun a14 =>
    zb1 (zai X a14 x1) fun v15 =>
    zb1 (zgr X x0 9 29) fun a18 =>
    zb1 (zai X a18 x1) fun v19 =>
    some ((((100000 * v7) + (10000 * v11)) + (100 * v15)) + v19)
def f_ZoneNodesModel_messages (N : Nat) (X : zh_T) (x0 : Nat) : Option Int32 :=
  zb1 (zgi X x0 9 24) fun v2 =>
  some v2
def f_ZoneNodesModel_need (N : Nat) (X : zh_T) (x0 : Nat) (x1 : Int32) (x2 : Int32) (x3 : Int32) (x4 : Int32) : Option (Int32 × zh_T) :=
  if x1 < 0 then
    some (0, X)
  else
    if 4 < x1 then
      some (0, X)
    else
      zb1 (f_ZoneNodesModel_isRecord N X x2 x3 x4) fun v4 =>
      if v4 = 0 then
        some (0, X)
      else
        zb1 (zgi X x0 9 14) fun v7 =>
        if v7 < 4 then
          zb1 (zgi X x0 9 14) fun v10 =>
          zb1 (zck X x0 9) fun _ =>
          zb2 (f_ZoneNodesModel_say N X x0 v10 x1 x2 x3 x4) fun _ X14 =>
          zb1 (zgi X14 x0 9 14) fun v16 =>
          zb1 (zp X14 x0 9 14 (.int (v16 + 1))) fun X17 =>
          some (1, X17)
        else
          some (0, X)
def L_ZoneNodesModel_shown_6 (N : Nat) (X : zh_T) (w0 : Nat) (w1 : Int32) (w2 : Int32) (w3 : Int32) (w4 : Int32) : Nat → Int32 → Int32 → Option Int32
  | 0, _, _ => none
  | n + 1, w5, w6 =>
    if w4 ≤ w6 then
      some w5
    else
      zb1 (zgr X w0 9 7) fun a3 =>
      zb1 (zaz X a3 ((((256 * w1) + (32 * w2)) + w3) + w6)) fun v4 =>
      if v4 = 0 then
        L_ZoneNodesModel_shown_6 N X w0 w1 w2 w3 w4 n (w5 + 0) (w6 + 1)
      else
        L_ZoneNodesModel_shown_6 N X w0 w1 w2 w3 w4 n (w5 + 1) (w6 + 1)
def f_ZoneNodesModel_shown (N : Nat) (X : zh_T) (x0 : Nat) (x1 : Int32) (x2 : Int32) (x3 : Int32) (x4 : Int32) : Option Int32 :=
  zb1 (L_ZoneNodesModel_shown_6 N X x0 x1 x2 x3 x4 N 0 0) fun v7 =>
  some v7
def L_ZoneNodesModel_query_72 (N : Nat) (X : zh_T) (w0 : Nat) (w1 : Int32) (w3 : Int32) (w4 : Int32) (w5 : Int32) : Nat → Int32 → Int32 → Option Int32
  | 0, _, _ => none
  | n + 1, w6, w7 =>
    if 8 ≤ w7 then
      some w6
    else
      if w3 = 2 then
        L_ZoneNodesModel_query_72 N X w0 w1 w3 w4 w5 n w6 (w7 + 1)
      else
        zb1 (zgr X w0 9 7) fun a22 =>
        zb1 (f_ZoneNodesModel_place N X w4 2 w7) fun v24 =>
        zb1 (zaz X a22 ((256 * w1) + v24)) fun v25 =>
        if v25 = 0 then
          L_ZoneNodesModel_query_72 N X w0 w1 w3 w4 w5 n w6 (w7 + 1)
        else
          L_ZoneNodesModel_query_72 N X w0 w1 w3 w4 w5 n w7 (w7 + 1)
def L_ZoneNodesModel_query_59 (N : Nat) (X : zh_T) (w0 : Nat) (w1 : Int32) (w3 : Int32) : Nat → Int32 → Int32 → Option (Int32 ⊕ Unit)
  | 0, _, _ => none
  | n + 1, w4, w5 =>
    if 9 ≤ w5 then
      some (Sum.inr ())
    else
      zb1 (L_ZoneNodesModel_query_72 N X w0 w1 w3 w4 w5 N (-1) 0) fun v28 =>
      if 0 ≤ v28 then
        L_ZoneNodesModel_query_59 N X w0 w1 w3 n v28 (w5 + 1)
      else
        zb1 (zck X w0 9) fun _ =>
        zb1 (f_ZoneNodesModel_shown N X w0 w1 w4 0 32) fun v33 =>
        if v33 = 0 then
          some (Sum.inl 300)
        else
          zb1 (zck X w0 9) fun _ =>
          zb1 (f_ZoneNodesModel_shown N X w0 w1 w4 (8 * (w3 - 1)) 8) fun v37 =>
          some (Sum.inl v37)
def f_ZoneNodesModel_query (N : Nat) (X : zh_T) (x0 : Nat) (x1 : Int32) (x2 : Int32) (x3 : Int32) : Option Int32 :=
  zb1 (f_ZoneNodesModel_isNode N X x1) fun v2 =>
  if v2 = 0 then
    some (-1)
  else
    zb1 (f_ZoneNodesModel_isRecord N X x2 x3 0) fun v5 =>
    if v5 = 0 then
      some (-1)
    else
      zb1 (zgr X x0 9 4) fun a8 =>
      zb1 (zaz X a8 x1) fun v9 =>
      if v9 = 0 then
        some (-1)
      else
        zb1 (zgr X x0 9 5) fun a13 =>
        zb1 (zaz X a13 x1) fun v14 =>
        if v14 = 0 then
          some (-1)
        else
          if x1 ≤ 0 then
            zbs (L_ZoneNodesModel_query_59 N X x0 x1 x3 N x2 0) (fun r0 => some r0) fun v38 =>
            some 200
          else
            zb1 (zgi X x0 9 3) fun v42 =>
            zb1 (zgr X x0 9 11) fun a44 =>
            zb1 (zai X a44 x1) fun v45 =>
            if v42 < v45 then
              zbs (L_ZoneNodesModel_query_59 N X x0 x1 x3 N x2 0) (fun r0 => some r0) fun v48 =>
              some 200
            else
              some (-1)
def f_ZoneNodesModel_notifyBoth (N : Nat) (X : zh_T) (x0 : Nat) : Option (Unit × zh_T) :=
  zb1 (zgr X x0 9 6) fun a2 =>
  zb1 (zai X a2 0) fun v3 =>
  zb1 (zck X x0 9) fun _ =>
  zb2 (f_ZoneNodesModel_send N X x0 1 1 v3) fun _ X8 =>
  zb1 (zgr X8 x0 9 6) fun a10 =>
  zb1 (zai X8 a10 0) fun v11 =>
  zb1 (zck X8 x0 9) fun _ =>
  zb2 (f_ZoneNodesModel_send N X8 x0 1 2 v11) fun _ X16 =>
  some ((), X16)
def L_ZoneNodesModel_install_9 (N : Nat) (w0 : Nat) (w1 : Int32) : Nat → zh_T → Int32 → Option (Unit × zh_T)
  | 0, _, _ => none
  | n + 1, X, w2 =>
    if 256 ≤ w2 then
      some ((), X)
    else
      zb1 (zgr X w0 9 7) fun a5 =>
      zb1 (zgr X w0 9 21) fun a7 =>
      zb1 (zaz X a7 ((256 * w1) + w2)) fun v8 =>
      zb1 (zsz X a5 w2 v8) fun X10 =>
      L_ZoneNodesModel_install_9 N w0 w1 n X10 (w2 + 1)
def L_ZoneNodesModel_install_69 (N : Nat) (w0 : Nat) : Nat → zh_T → Int32 → Option (Unit × zh_T)
  | 0, _, _ => none
  | n + 1, X, w2 =>
    if 4 ≤ w2 then
      some ((), X)
    else
      zb1 (zgr X w0 9 19) fun a34 =>
      zb1 (zgr X w0 9 19) fun a36 =>
      zb1 (zai X a36 (w2 + 1)) fun v37 =>
      zb1 (zsi X a34 w2 v37) fun X39 =>
      zb1 (zgr X39 w0 9 20) fun a42 =>
      zb1 (zgr X39 w0 9 20) fun a44 =>
      zb1 (zaz X39 a44 (w2 + 1)) fun v45 =>
      zb1 (zsz X39 a42 w2 v45) fun X47 =>
      zb1 (zgr X47 w0 9 22) fun a50 =>
      zb1 (zgr X47 w0 9 22) fun a52 =>
      zb1 (zai X47 a52 (w2 + 1)) fun v53 =>
      zb1 (zsi X47 a50 w2 v53) fun X55 =>
      L_ZoneNodesModel_install_69 N w0 n X55 (w2 + 1)
def L_ZoneNodesModel_install_124 (N : Nat) (w0 : Nat) : Nat → zh_T → Int32 → Option (Unit × zh_T)
  | 0, _, _ => none
  | n + 1, X, w2 =>
    if 1024 ≤ w2 then
      some ((), X)
    else
      zb1 (zgr X w0 9 21) fun a62 =>
      zb1 (zgr X w0 9 21) fun a64 =>
      zb1 (zaz X a64 (w2 + 256)) fun v65 =>
      zb1 (zsz X a62 w2 v65) fun X67 =>
      L_ZoneNodesModel_install_124 N w0 n X67 (w2 + 1)
def f_ZoneNodesModel_install (N : Nat) (X : zh_T) (x0 : Nat) : Option (Unit × zh_T) :=
  zb1 (zgi X x0 9 18) fun v2 =>
  zb2 (L_ZoneNodesModel_install_9 N x0 (v2 - 1) N X 0) fun v12 X14 =>
  zb1 (zgr X14 x0 9 6) fun a16 =>
  zb1 (zgr X14 x0 9 19) fun a18 =>
  zb1 (zai X14 a18 (v2 - 1)) fun v19 =>
  zb1 (zsi X14 a16 0 (v19 + 1)) fun X21 =>
  zb1 (zgi X21 x0 9 18) fun v24 =>
  if v24 = 5 then
    zb1 (zp X21 x0 9 18 (.int 4)) fun X30 =>
    zb2 (L_ZoneNodesModel_install_69 N x0 N X30 0) fun v57 X59 =>
    zb2 (L_ZoneNodesModel_install_124 N x0 N X59 0) fun v69 X71 =>
    zb1 (zck X71 x0 9) fun _ =>
    zb2 (f_ZoneNodesModel_notifyBoth N X71 x0) fun _ X75 =>
    some ((), X75)
  else
    zb1 (zck X21 x0 9) fun _ =>
    zb2 (f_ZoneNodesModel_notifyBoth N X21 x0) fun _ X29 =>
    some ((), X29)
