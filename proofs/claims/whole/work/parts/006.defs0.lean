def f_ZoneNodes_within (N : Nat) (X : zh_T) (x0 : Int32) (x1 : Int32) (x2 : Int32) : Option Int32 :=
  if x0 < x1 then
    some 0
  else
    if x2 < x0 then
      some 0
    else
      some 1
def f_Draft_init (N : Nat) (X : zh_T) (x0 : Nat) : Option (Unit × zh_T) :=
  zb2 (zna X 0 4) fun a1 X2 =>
  zb1 (zp X2 x0 0 0 (.ref a1)) fun X4 =>
  zb2 (zna X4 0 4) fun a6 X7 =>
  zb1 (zp X7 x0 0 1 (.ref a6)) fun X9 =>
  some ((), X9)
def f_Records_init (N : Nat) (X : zh_T) (x0 : Nat) : Option (Unit × zh_T) :=
  zb2 (zna X 0 32) fun a1 X2 =>
  zb1 (zp X2 x0 5 0 (.ref a1)) fun X4 =>
  some ((), X4)
def f_Entry_init (N : Nat) (X : zh_T) (x0 : Nat) : Option (Unit × zh_T) :=
  zb2 (znw X 5 [.null]) fun a1 X2 =>
  zb2 (f_Records_init N X2 a1) fun _ X6 =>
  zb1 (zp X6 x0 1 0 (.ref a1)) fun X7 =>
  zb2 (znw X7 5 [.null]) fun a9 X10 =>
  zb2 (f_Records_init N X10 a9) fun _ X14 =>
  zb1 (zp X14 x0 1 1 (.ref a9)) fun X15 =>
  some ((), X15)
def L_Journal_init_14 (N : Nat) (w0 : Nat) : Nat → zh_T → Int32 → Option (Unit × zh_T)
  | 0, _, _ => none
  | n + 1, X, w1 =>
    zb1 (zgr X w0 2 0) fun a7 =>
    zb1 (zln X 2 a7) fun v8 =>
    if v8 ≤ w1 then
      some ((), X)
    else
      zb1 (zgr X w0 2 0) fun a12 =>
      zb2 (znw X 1 [.null, .null, .int 0, .int 0]) fun a13 X14 =>
      zb2 (f_Entry_init N X14 a13) fun _ X18 =>
      zb1 (zsr X18 2 1 a12 w1 a13) fun X19 =>
      L_Journal_init_14 N w0 n X19 (w1 + 1)
def f_Journal_init (N : Nat) (X : zh_T) (x0 : Nat) : Option (Unit × zh_T) :=
  zb2 (znq X 2 5) fun a1 X2 =>
  zb1 (zp X2 x0 2 0 (.ref a1)) fun X4 =>
  zb2 (L_Journal_init_14 N x0 6 X4 0) fun v21 X23 =>
  some ((), X23)
def f_Records_setValues (N : Nat) (X : zh_T) (x0 : Nat) (x1 : Int32) (x2 : Int32) (x3 : Int32) : Option (Unit × zh_T) :=
  zb1 (zgr X x0 5 0) fun a2 =>
  zb1 (zsi X a2 (((4 * x1) + x2) - 1) x3) fun X3 =>
  some ((), X3)
def f_Records_valuesOf (N : Nat) (X : zh_T) (x0 : Nat) (x1 : Int32) (x2 : Int32) : Option Int32 :=
  zb1 (zgr X x0 5 0) fun a2 =>
  zb1 (zai X a2 (((4 * x1) + x2) - 1)) fun v3 =>
  some v3
def f_Records_put (N : Nat) (X : zh_T) (x0 : Nat) (x1 : Int32) (x2 : Int32) (x3 : Int32) : Option (Unit × zh_T) :=
  zb1 (zck X x0 5) fun _ =>
  zb1 (f_Records_valuesOf N X x0 x1 x2) fun v3 =>
  zb1 (zck X x0 5) fun _ =>
  zb2 (f_Records_setValues N X x0 x1 x2 (v3 ||| (1 <<< (x3 &&& 31)))) fun _ X7 =>
  some ((), X7)
def f_Primary_init (N : Nat) (X : zh_T) (x0 : Nat) (x1 : Int32) : Option (Unit × zh_T) :=
  zb2 (znw X 5 [.null]) fun a1 X2 =>
  zb2 (f_Records_init N X2 a1) fun _ X6 =>
  zb1 (zp X6 x0 4 0 (.ref a1)) fun X7 =>
  zb2 (znw X7 5 [.null]) fun a9 X10 =>
  zb2 (f_Records_init N X10 a9) fun _ X14 =>
  zb1 (zp X14 x0 4 1 (.ref a9)) fun X15 =>
  zb2 (znw X15 2 [.null, .int 0]) fun a17 X18 =>
  zb2 (f_Journal_init N X18 a17) fun _ X22 =>
  zb1 (zp X22 x0 4 2 (.ref a17)) fun X23 =>
  zb2 (zna X23 0 112) fun a25 X26 =>
  zb1 (zp X26 x0 4 3 (.ref a25)) fun X28 =>
  zb1 (zpz X28 x0 4 8 1) fun X30 =>
  zb1 (zp X30 x0 4 6 (.int x1)) fun X32 =>
  zb1 (zgr X32 x0 4 0) fun a35 =>
  zb1 (zck X32 a35 5) fun _ =>
  zb2 (f_Records_put N X32 a35 0 3 1) fun _ X39 =>
  some ((), X39)
def f_Secondary_rest (N : Nat) (X : zh_T) (x0 : Nat) (x1 : Int32) : Option (Unit × zh_T) :=
  zb1 (zp X x0 6 9 (.int 0)) fun X1 =>
  zb1 (zp X1 x0 6 10 (.int x1)) fun X3 =>
  some ((), X3)
def f_Secondary_comeUp (N : Nat) (X : zh_T) (x0 : Nat) (x1 : Int32) : Option (Unit × zh_T) :=
  zb1 (zpz X x0 6 6 1) fun X1 =>
  zb1 (zck X1 x0 6) fun _ =>
  zb2 (f_Secondary_rest N X1 x0 (x1 + 1)) fun _ X6 =>
  zb1 (zgi X6 x0 6 3) fun v8 =>
  zb1 (zp X6 x0 6 12 (.int (x1 + v8))) fun X9 =>
  some ((), X9)
def f_Secondary_init (N : Nat) (X : zh_T) (x0 : Nat) (x1 : Int32) (x2 : Int32) (x3 : Int32) (x4 : Int32) : Option (Unit × zh_T) :=
  zb2 (znw X 5 [.null]) fun a1 X2 =>
  zb2 (f_Records_init N X2 a1) fun _ X6 =>
  zb1 (zp X6 x0 6 4 (.ref a1)) fun X7 =>
  zb2 (znw X7 5 [.null]) fun a9 X10 =>
  zb2 (f_Records_init N X10 a9) fun _ X14 =>
  zb1 (zp X14 x0 6 5 (.ref a9)) fun X15 =>
  zb1 (zp X15 x0 6 0 (.int x1)) fun X17 =>
  zb1 (zp X17 x0 6 1 (.int x2)) fun X19 =>
  zb1 (zp X19 x0 6 2 (.int x3)) fun X21 =>
  zb1 (zp X21 x0 6 3 (.int x4)) fun X23 =>
  zb1 (zck X23 x0 6) fun _ =>
  zb2 (f_Secondary_comeUp N X23 x0 0) fun _ X28 =>
  some ((), X28)
def f_Message_init (N : Nat) (X : zh_T) (x0 : Nat) : Option (Unit × zh_T) :=
  zb2 (zna X 0 4) fun a1 X2 =>
  zb1 (zp X2 x0 3 0 (.ref a1)) fun X4 =>
  some ((), X4)
def L_Wire_init_15 (N : Nat) (w0 : Nat) : Nat → zh_T → Int32 → Option (Unit × zh_T)
  | 0, _, _ => none
  | n + 1, X, w1 =>
    zb1 (zgr X w0 7 0) fun a7 =>
    zb1 (zln X 3 a7) fun v8 =>
    if v8 ≤ w1 then
      some ((), X)
    else
      zb1 (zgr X w0 7 0) fun a12 =>
      zb2 (znw X 3 [.null, .int 0, .int 0, .int 0, .int 0, .int 0, .int 0, .int 0, .int 0, .int 0]) fun a13 X14 =>
      zb2 (f_Message_init N X14 a13) fun _ X18 =>
      zb1 (zsr X18 3 3 a12 w1 a13) fun X19 =>
      L_Wire_init_15 N w0 n X19 (w1 + 1)
def f_Wire_init (N : Nat) (X : zh_T) (x0 : Nat) : Option (Unit × zh_T) :=
  zb2 (znq X 3 80) fun a1 X2 =>
  zb1 (zp X2 x0 7 0 (.ref a1)) fun X4 =>
  zb2 (L_Wire_init_15 N x0 81 X4 0) fun v21 X23 =>
  some ((), X23)
def L_ZoneNodes_init_120 (N : Nat) (w0 : Nat) (w5 : Int32) (w6 : Int32) (w7 : Int32) : Nat → zh_T → Int32 → Option (Unit × zh_T)
  | 0, _, _ => none
  | n + 1, X, w8 =>
    if 2 ≤ w8 then
      some ((), X)
    else
      zb1 (zgr X w0 8 5) fun a51 =>
      zb2 (znw X 6 [.int 0, .int 0, .int 0, .int 0, .null, .null, .int 0, .int 0, .int 0, .int 0, .int 0, .int 0, .int 0]) fun a52 X53 =>
      zb2 (f_Secondary_init N X53 a52 (w8 + 1) w5 w6 w7) fun _ X57 =>
      zb1 (zsr X57 4 6 a51 w8 a52) fun X58 =>
      L_ZoneNodes_init_120 N w0 w5 w6 w7 n X58 (w8 + 1)
def J_ZoneNodes_init_81 (N : Nat) (X : zh_T) (w0 : Nat) (w1 : Int32) (w4 : Int32) (w5 : Int32) (u0 : Int32) : Option (Unit × zh_T) :=
  zb1 (f_ZoneNodes_within N X w4 10 200) fun v39 =>
  if v39 = 0 then
    zb2 (znw X 4 [.null, .null, .null, .null, .int 0, .int 0, .int 0, .int 0, .int 0]) fun a41 X42 =>
    zb2 (f_Primary_init N X42 a41 w1) fun _ X46 =>
    zb1 (zp X46 w0 8 4 (.ref a41)) fun X47 =>
    zb2 (L_ZoneNodes_init_120 N w0 w5 u0 60 3 X47 0) fun v60 X62 =>
    some ((), X62)
  else
    zb2 (znw X 4 [.null, .null, .null, .null, .int 0, .int 0, .int 0, .int 0, .int 0]) fun a63 X64 =>
    zb2 (f_Primary_init N X64 a63 w1) fun _ X68 =>
    zb1 (zp X68 w0 8 4 (.ref a63)) fun X69 =>
    zb2 (L_ZoneNodes_init_120 N w0 w5 u0 w4 3 X69 0) fun v71 X73 =>
    some ((), X73)
def f_ZoneNodes_init (N : Nat) (X : zh_T) (x0 : Nat) (x1 : Int32) (x2 : Int32) (x3 : Int32) (x4 : Int32) : Option (Unit × zh_T) :=
  zb2 (zna X 0 3) fun a1 X2 =>
  zb1 (zp X2 x0 8 0 (.ref a1)) fun X4 =>
  zb2 (zna X4 1 3) fun a6 X7 =>
  zb1 (zp X7 x0 8 1 (.ref a6)) fun X9 =>
  zb2 (znw X9 0 [.null, .null, .int 0, .int 0]) fun a11 X12 =>
  zb2 (f_Draft_init N X12 a11) fun _ X16 =>
  zb1 (zp X16 x0 8 2 (.ref a11)) fun X17 =>
  zb2 (znw X17 7 [.null, .int 0]) fun a19 X20 =>
  zb2 (f_Wire_init N X20 a19) fun _ X24 =>
  zb1 (zp X24 x0 8 3 (.ref a19)) fun X25 =>
  zb2 (znq X25 4 2) fun a27 X28 =>
  zb1 (zp X28 x0 8 5 (.ref a27)) fun X30 =>
  zb1 (f_ZoneNodes_within N X30 x2 4 50) fun v33 =>
  if v33 = 0 then
    zb1 (f_ZoneNodes_within N X30 x3 2 20) fun v36 =>
    if v36 = 0 then
      J_ZoneNodes_init_81 N X30 x0 x1 x4 10 4
    else
      J_ZoneNodes_init_81 N X30 x0 x1 x4 10 x3
  else
    zb1 (f_ZoneNodes_within N X30 x3 2 20) fun v75 =>
    if v75 = 0 then
      J_ZoneNodes_init_81 N X30 x0 x1 x4 x2 4
    else
      J_ZoneNodes_init_81 N X30 x0 x1 x4 x2 x3
def f_Wire_at (N : Nat) (X : zh_T) (x0 : Nat) (x1 : Int32) : Option (Option Nat) :=
  zb1 (zgi X x0 7 1) fun v2 =>
  zb1 (f_ZoneNodes_within N X x1 0 (v2 - 1)) fun v4 =>
  if v4 = 0 then
    some none
  else
    zb1 (zgr X x0 7 0) fun a7 =>
    zb1 (zar X 3 a7 x1) fun a9 =>
    some (some a9)
def f_ZoneNodes_alter (N : Nat) (X : zh_T) (x0 : Nat) (x1 : Int32) : Option (Int32 × zh_T) :=
  zb1 (zgr X x0 8 3) fun a2 =>
  zb1 (zck X a2 7) fun _ =>
  zb1 (f_Wire_at N X a2 x1) fun q5 =>
  zbo q5 (
    some (0, X)) fun a6 =>
  zb1 (zgi X a6 3 1) fun v8 =>
  if v8 = 5 then
    zb1 (zgi X a6 3 9) fun v11 =>
    if v11 = 0 then
      zb1 (zpz X a6 3 9 1) fun X13 =>
      some (1, X13)
    else
      some (0, X)
  else
    some (0, X)
def f_ZoneNodes_arm (N : Nat) (X : zh_T) (x0 : Nat) (x1 : Int32) : Option (Int32 × zh_T) :=
  zb1 (f_ZoneNodes_within N X x1 0 3) fun v2 =>
  if v2 = 0 then
    some (0, X)
  else
    zb1 (zgr X x0 8 4) fun a5 =>
    zb1 (zgi X a5 4 8) fun v7 =>
    if v7 = 0 then
      some (0, X)
    else
      zb1 (zgr X x0 8 4) fun a10 =>
      zb1 (zp X a10 4 7 (.int x1)) fun X11 =>
      some (1, X11)
def L_Journal_leadsTo_13 (N : Nat) (X : zh_T) (w0 : Nat) (w2 : Int32) : Nat → Int32 → Int32 → Option (Int32 ⊕ Int32)
  | 0, _, _ => none
  | n + 1, w3, w4 =>
    zb1 (zgi X w0 2 1) fun v8 =>
    if v8 ≤ w4 then
      some (Sum.inr w3)
    else
      zb1 (zgr X w0 2 0) fun a11 =>
      zb1 (zar X 2 a11 w4) fun a13 =>
      zb1 (zgi X a13 1 2) fun v15 =>
      if v15 = w3 then
        L_Journal_leadsTo_13 N X w0 w2 n (w3 + 1) (w4 + 1)
      else
        some (Sum.inl 0)
def f_Journal_leadsTo (N : Nat) (X : zh_T) (x0 : Nat) (x1 : Int32) (x2 : Int32) : Option Int32 :=
  zb1 (zgr X x0 2 0) fun a2 =>
  zb1 (zar X 2 a2 x1) fun a4 =>
  zb1 (zgi X a4 1 2) fun v6 =>
  zbs (L_Journal_leadsTo_13 N X x0 x2 N v6 x1) (fun r0 => some r0) fun v17 =>
  if v17 = x2 then
    some 1
  else
    some 0
def L_Journal_startOfWay_2 (N : Nat) (X : zh_T) (w0 : Nat) (w1 : Int32) (w2 : Int32) : Nat → Int32 → Option (Int32 ⊕ Unit)
  | 0, _ => none
  | n + 1, w3 =>
    zb1 (zgi X w0 2 1) fun v2 =>
    if v2 ≤ w3 then
      some (Sum.inr ())
    else
      zb1 (zgr X w0 2 0) fun a5 =>
      zb1 (zar X 2 a5 w3) fun a7 =>
      zb1 (zgi X a7 1 2) fun v9 =>
      if v9 = w1 then
        zb1 (zck X w0 2) fun _ =>
        zb1 (f_Journal_leadsTo N X w0 w3 w2) fun v13 =>
        if v13 = 0 then
          zb1 (zgi X w0 2 1) fun v16 =>
          some (Sum.inl v16)
        else
          some (Sum.inl w3)
      else
        L_Journal_startOfWay_2 N X w0 w1 w2 n (w3 + 1)
def f_Journal_startOfWay (N : Nat) (X : zh_T) (x0 : Nat) (x1 : Int32) (x2 : Int32) : Option Int32 :=
  zbs (L_Journal_startOfWay_2 N X x0 x1 x2 N 0) (fun r0 => some r0) fun v17 =>
  zb1 (zgi X x0 2 1) fun v20 =>
  some v20
def f_ZoneNodes_coded (N : Nat) (X : zh_T) (x0 : Int32) (x1 : Int32) (x2 : Int32) (x3 : Int32) : Option Int32 :=
  some ((((1000 * x0) + (100 * x1)) + (10 * x2)) + x3)
def L_Records_listInto_19 (N : Nat) (w0 : Nat) (w1 : Nat) (w3 : Int32) (w5 : Int32) : Nat → zh_T → Int32 → Int32 → Option (Int32 × zh_T)
  | 0, _, _, _ => none
  | n + 1, X, w4, w6 =>
    if 8 ≤ w6 then
      some (w4, X)
    else
      zb1 (zgr X w0 5 0) fun a8 =>
      zb1 (zai X a8 w5) fun v9 =>
      if ((v9 >>> (w6 &&& 31)) &&& 1) = 1 then
        zb1 (zln X 0 w1) fun v12 =>
        if v12 ≤ w4 then
          L_Records_listInto_19 N w0 w1 w3 w5 n X w4 (w6 + 1)
        else
          zb1 (f_ZoneNodes_coded N X w3 (w5 / 4) ((zi_rem w5 4) + 1) w6) fun v16 =>
          zb1 (zsi X w1 w4 v16) fun X17 =>
          L_Records_listInto_19 N w0 w1 w3 w5 n X17 (w4 + 1) (w6 + 1)
      else
        L_Records_listInto_19 N w0 w1 w3 w5 n X w4 (w6 + 1)
def L_Records_listInto_6 (N : Nat) (w0 : Nat) (w1 : Nat) (w3 : Int32) : Nat → zh_T → Int32 → Int32 → Option (Int32 × zh_T)
  | 0, _, _, _ => none
  | n + 1, X, w4, w5 =>
    zb1 (zgr X w0 5 0) fun a2 =>
    zb1 (zln X 0 a2) fun v3 =>
    if v3 ≤ w5 then
      some (w4, X)
    else
      zb2 (L_Records_listInto_19 N w0 w1 w3 w5 N X w4 0) fun v19 X21 =>
      L_Records_listInto_6 N w0 w1 w3 n X21 v19 (w5 + 1)
def f_Records_listInto (N : Nat) (X : zh_T) (x0 : Nat) (x1 : Nat) (x2 : Int32) (x3 : Int32) : Option (Int32 × zh_T) :=
  zb2 (L_Records_listInto_6 N x0 x1 x3 N X x2 0) fun v22 X24 =>
  some (v22, X24)
def L_Primary_workOutItems_80 (N : Nat) (w0 : Nat) : Nat → zh_T → Int32 → Option (Unit × zh_T)
  | 0, _, _ => none
  | n + 1, X, w4 =>
    zb1 (zgr X w0 4 2) fun a19 =>
    zb1 (zgi X a19 2 1) fun v21 =>
    if v21 ≤ w4 then
      some ((), X)
    else
      zb1 (zgr X w0 4 2) fun a24 =>
      zb1 (zgr X a24 2 0) fun a26 =>
      zb1 (zar X 2 a26 w4) fun a28 =>
      zb1 (zgr X a28 1 0) fun a30 =>
      zb1 (zgr X w0 4 3) fun a32 =>
      zb1 (zgi X w0 4 4) fun v34 =>
      zb1 (zck X a30 5) fun _ =>
      zb2 (f_Records_listInto N X a30 a32 v34 1) fun v37 X38 =>
      zb1 (zp X38 w0 4 4 (.int v37)) fun X39 =>
      zb1 (zgr X39 w0 4 2) fun a42 =>
      zb1 (zgr X39 a42 2 0) fun a44 =>
      zb1 (zar X39 2 a44 w4) fun a46 =>
      zb1 (zgr X39 a46 1 1) fun a48 =>
      zb1 (zgr X39 w0 4 3) fun a50 =>
      zb1 (zgi X39 w0 4 4) fun v52 =>
      zb1 (zck X39 a48 5) fun _ =>
      zb2 (f_Records_listInto N X39 a48 a50 v52 0) fun v55 X56 =>
      zb1 (zp X56 w0 4 4 (.int v55)) fun X57 =>
      L_Primary_workOutItems_80 N w0 n X57 (w4 + 1)
def f_Primary_workOutItems (N : Nat) (X : zh_T) (x0 : Nat) (x1 : Int32) (x2 : Int32) : Option (Unit × zh_T) :=
  if x1 = 0 then
    zb1 (zgr X x0 4 2) fun a3 =>
    zb1 (zgi X a3 2 1) fun v5 =>
    zb1 (zgr X x0 4 2) fun a7 =>
    zb1 (zgi X a7 2 1) fun v9 =>
    if v5 < v9 then
      zb1 (zpz X x0 4 5 0) fun X11 =>
      zb1 (zp X11 x0 4 4 (.int 0)) fun X13 =>
      zb1 (zgi X13 x0 4 5) fun v16 =>
      if v16 = 0 then
        zb2 (L_Primary_workOutItems_80 N x0 N X13 v5) fun v59 X61 =>
        some ((), X61)
      else
        zb1 (zgr X13 x0 4 0) fun a63 =>
        zb1 (zgr X13 x0 4 3) fun a65 =>
        zb1 (zck X13 a63 5) fun _ =>
        zb2 (f_Records_listInto N X13 a63 a65 0 0) fun v68 X69 =>
        zb1 (zp X69 x0 4 4 (.int v68)) fun X70 =>
        some ((), X70)
    else
      zb1 (zpz X x0 4 5 1) fun X72 =>
      zb1 (zp X72 x0 4 4 (.int 0)) fun X74 =>
      zb1 (zgi X74 x0 4 5) fun v77 =>
      if v77 = 0 then
        zb2 (L_Primary_workOutItems_80 N x0 N X74 v5) fun v79 X81 =>
        some ((), X81)
      else
        zb1 (zgr X74 x0 4 0) fun a83 =>
        zb1 (zgr X74 x0 4 3) fun a85 =>
        zb1 (zck X74 a83 5) fun _ =>
        zb2 (f_Records_listInto N X74 a83 a85 0 0) fun v88 X89 =>
        zb1 (zp X89 x0 4 4 (.int v88)) fun X90 =>
        some ((), X90)
  else
    zb1 (zgr X x0 4 2) fun a93 =>
    zb1 (zgi X x0 4 6) fun v95 =>
    zb1 (zck X a93 2) fun _ =>
    zb1 (f_Journal_startOfWay N X a93 x2 v95) fun v98 =>
    zb1 (zgr X x0 4 2) fun a100 =>
    zb1 (zgi X a100 2 1) fun v102 =>
    if v98 < v102 then
      zb1 (zpz X x0 4 5 0) fun X104 =>
      zb1 (zp X104 x0 4 4 (.int 0)) fun X106 =>
      zb1 (zgi X106 x0 4 5) fun v109 =>
      if v109 = 0 then
        zb2 (L_Primary_workOutItems_80 N x0 N X106 v98) fun v111 X113 =>
        some ((), X113)
      else
        zb1 (zgr X106 x0 4 0) fun a115 =>
        zb1 (zgr X106 x0 4 3) fun a117 =>
        zb1 (zck X106 a115 5) fun _ =>
        zb2 (f_Records_listInto N X106 a115 a117 0 0) fun v120 X121 =>
        zb1 (zp X121 x0 4 4 (.int v120)) fun X122 =>
        some ((), X122)
    else
      zb1 (zpz X x0 4 5 1) fun X124 =>
      zb1 (zp X124 x0 4 4 (.int 0)) fun X126 =>
      zb1 (zgi X126 x0 4 5) fun v129 =>
      if v129 = 0 then
        zb2 (L_Primary_workOutItems_80 N x0 N X126 v98) fun v131 X133 =>
        some ((), X133)
      else
        zb1 (zgr X126 x0 4 0) fun a135 =>
        zb1 (zgr X126 x0 4 3) fun a137 =>
        zb1 (zck X126 a135 5) fun _ =>
        zb2 (f_Records_listInto N X126 a135 a137 0 0) fun v140 X141 =>
        zb1 (zp X141 x0 4 4 (.int v140)) fun X142 =>
        some ((), X142)
def f_Message_isOnStream (N : Nat) (X : zh_T) (x0 : Nat) : Option Int32 :=
  zb1 (zgi X x0 3 1) fun v2 =>
  if v2 = 4 then
    some 1
  else
    zb1 (zgi X x0 3 1) fun v5 =>
    if v5 = 5 then
      some 1
    else
      some 0
def L_Wire_countLossy_4 (N : Nat) (X : zh_T) (w0 : Nat) : Nat → Int32 → Int32 → Option Int32
  | 0, _, _ => none
  | n + 1, w1, w2 =>
    zb1 (zgi X w0 7 1) fun v2 =>
    if v2 ≤ w2 then
      some w1
    else
      zb1 (zgr X w0 7 0) fun a5 =>
      zb1 (zar X 3 a5 w2) fun a7 =>
      zb1 (zck X a7 3) fun _ =>
      zb1 (f_Message_isOnStream N X a7) fun v10 =>
      if v10 = 0 then
        L_Wire_countLossy_4 N X w0 n (w1 + 1) (w2 + 1)
      else
        L_Wire_countLossy_4 N X w0 n w1 (w2 + 1)
def f_Wire_countLossy (N : Nat) (X : zh_T) (x0 : Nat) : Option Int32 :=
  zb1 (L_Wire_countLossy_4 N X x0 N 0 0) fun v12 =>
  some v12
def f_Wire_put (N : Nat) (X : zh_T) (x0 : Nat) (x1 : Int32) (x2 : Int32) (x3 : Int32) : Option (Option Nat × zh_T) :=
  zb1 (zgi X x0 7 1) fun v2 =>
  zb1 (zgr X x0 7 0) fun a4 =>
  zb1 (zln X 3 a4) fun v5 =>
  if v2 < v5 then
    zb1 (zgr X x0 7 0) fun a9 =>
    zb1 (zgi X x0 7 1) fun v11 =>
    zb1 (zar X 3 a9 v11) fun a13 =>
    zb1 (zp X a13 3 1 (.int x1)) fun X14 =>
    zb1 (zp X14 a13 3 2 (.int x2)) fun X16 =>
    zb1 (zp X16 a13 3 4 (.int x3)) fun X18 =>
    zb1 (zpz X18 a13 3 9 0) fun X20 =>
    zb1 (zgi X20 x0 7 1) fun v23 =>
    zb1 (zp X20 x0 7 1 (.int (v23 + 1))) fun X24 =>
    some (some a13, X24)
  else
    some (none, X)
def f_Wire_sendLossy (N : Nat) (X : zh_T) (x0 : Nat) (x1 : Int32) (x2 : Int32) (x3 : Int32) : Option (Unit × zh_T) :=
  zb1 (zck X x0 7) fun _ =>
  zb1 (f_Wire_countLossy N X x0) fun v3 =>
  if 24 ≤ v3 then
    some ((), X)
  else
    zb1 (zck X x0 7) fun _ =>
    zb2 (f_Wire_put N X x0 x1 x2 x3) fun q7 X8 =>
    some ((), X8)
def L_Wire_sendParts_87 (N : Nat) (w0 : Nat) (w1 : Int32) (w2 : Nat) (w3 : Int32) (w4 : Int32) (w5 : Nat) : Nat → zh_T → Int32 → Option (Unit × zh_T)
  | 0, _, _ => none
  | n + 1, X, w6 =>
    zb1 (zgi X w5 3 6) fun v27 =>
    if v27 ≤ w6 then
      some ((), X)
    else
      zb1 (zgr X w5 3 0) fun a30 =>
      zb1 (zgr X w2 4 3) fun a32 =>
      zb1 (zai X a32 (w4 + w6)) fun v33 =>
      zb1 (zsi X a30 w6 v33) fun X35 =>
      L_Wire_sendParts_87 N w0 w1 w2 w3 w4 w5 n X35 (w6 + 1)
def L_Wire_sendParts_5 (N : Nat) (w0 : Nat) (w1 : Int32) (w2 : Nat) : Nat → zh_T → Int32 → Int32 → Option ((Unit × zh_T) ⊕ (Unit × zh_T))
  | 0, _, _, _ => none
  | n + 1, X, w3, w4 =>
    zb1 (zgi X w2 4 4) fun v2 =>
    if v2 ≤ w4 then
      some (Sum.inr ((), X))
    else
      zb1 (zgi X w2 4 6) fun v5 =>
      zb1 (zck X w0 7) fun _ =>
      zb2 (f_Wire_put N X w0 5 w1 v5) fun q8 X9 =>
      zbo q8 (
        some (Sum.inl ((), X9))) fun a10 =>
      zb1 (zp X9 a10 3 5 (.int w3)) fun X11 =>
      zb1 (zgi X11 w2 4 5) fun v14 =>
      zb1 (zpz X11 a10 3 7 v14) fun X15 =>
      zb1 (zgi X15 w2 4 4) fun v18 =>
      if (w4 + 4) < v18 then
        zb1 (zpz X15 a10 3 8 0) fun X20 =>
        zb1 (zgi X20 w2 4 4) fun v23 =>
        zb1 (zp X20 a10 3 6 (.int (if (v23 - w4) < 4 then (v23 - w4) else 4))) fun X24 =>
        zb2 (L_Wire_sendParts_87 N w0 w1 w2 w3 w4 a10 N X24 0) fun v37 X39 =>
        L_Wire_sendParts_5 N w0 w1 w2 n X39 (w3 + 1) (w4 + 4)
      else
        zb1 (zpz X15 a10 3 8 1) fun X40 =>
        zb1 (zgi X40 w2 4 4) fun v43 =>
        zb1 (zp X40 a10 3 6 (.int (if (v43 - w4) < 4 then (v43 - w4) else 4))) fun X44 =>
        zb2 (L_Wire_sendParts_87 N w0 w1 w2 w3 w4 a10 N X44 0) fun v46 X48 =>
        L_Wire_sendParts_5 N w0 w1 w2 n X48 (w3 + 1) (w4 + 4)
def f_Wire_sendParts (N : Nat) (X : zh_T) (x0 : Nat) (x1 : Int32) (x2 : Nat) : Option (Unit × zh_T) :=
  zbt (L_Wire_sendParts_5 N x0 x1 x2 N X 0 0) (fun r0 X0 => some (r0, X0)) fun v49 X51 =>
  some ((), X51)
def f_ZoneNodes_arriveAtPrimary (N : Nat) (X : zh_T) (x0 : Nat) (x1 : Nat) : Option (Unit × zh_T) :=
  zb1 (zgr X x0 8 4) fun a2 =>
  zb1 (zgi X a2 4 8) fun v4 =>
  if v4 = 0 then
    some ((), X)
  else
    zb1 (zgi X x1 3 1) fun v7 =>
    if v7 = 2 then
      zb1 (zgr X x0 8 3) fun a30 =>
      zb1 (zgi X x1 3 2) fun v32 =>
      zb1 (zgr X x0 8 4) fun a34 =>
      zb1 (zgi X a34 4 6) fun v36 =>
      zb1 (zck X a30 7) fun _ =>
      zb2 (f_Wire_sendLossy N X a30 3 v32 v36) fun _ X40 =>
      some ((), X40)
    else
      zb1 (zgr X x0 8 4) fun a10 =>
      zb1 (zgi X x1 3 3) fun v12 =>
      zb1 (zgi X x1 3 4) fun v14 =>
      zb1 (zck X a10 4) fun _ =>
      zb2 (f_Primary_workOutItems N X a10 v12 v14) fun _ X18 =>
      zb1 (zgr X18 x0 8 3) fun a20 =>
      zb1 (zgi X18 x1 3 2) fun v22 =>
      zb1 (zgr X18 x0 8 4) fun a24 =>
      zb1 (zck X18 a20 7) fun _ =>
      zb2 (f_Wire_sendParts N X18 a20 v22 a24) fun _ X28 =>
      some ((), X28)
def f_Secondary_ask (N : Nat) (X : zh_T) (x0 : Nat) (x1 : Int32) (x2 : Nat) : Option (Unit × zh_T) :=
  zb1 (zgi X x0 6 0) fun v2 =>
  zb1 (zck X x2 7) fun _ =>
  zb2 (f_Wire_sendLossy N X x2 2 v2 0) fun _ X6 =>
  zb1 (zp X6 x0 6 9 (.int 1)) fun X7 =>
  zb1 (zp X7 x0 6 11 (.int x1)) fun X9 =>
  some ((), X9)
def f_ZoneNodes_isLater (N : Nat) (X : zh_T) (x0 : Int32) (x1 : Int32) : Option Int32 :=
  if (x0 - x1) ≤ 0 then
    some 0
  else
    some 1
def f_Secondary_lacks (N : Nat) (X : zh_T) (x0 : Nat) (x1 : Int32) : Option Int32 :=
  zb1 (zgi X x0 6 7) fun v2 =>
  if v2 = 0 then
    some 1
  else
    zb1 (zgi X x0 6 8) fun v5 =>
    zb1 (f_ZoneNodes_isLater N X x1 v5) fun v7 =>
    if v7 = 0 then
      some 0
    else
      some 1
def f_Secondary_hearNotify (N : Nat) (X : zh_T) (x0 : Nat) (x1 : Int32) (x2 : Int32) (x3 : Nat) : Option (Unit × zh_T) :=
  zb1 (zgi X x0 6 9) fun v2 =>
  if v2 = 0 then
    zb1 (zck X x0 6) fun _ =>
    zb1 (f_Secondary_lacks N X x0 x1) fun v6 =>
    if v6 = 0 then
      some ((), X)
    else
      zb1 (zck X x0 6) fun _ =>
      zb2 (f_Secondary_ask N X x0 x2 x3) fun _ X11 =>
      some ((), X11)
  else
    some ((), X)
def f_Secondary_becomeRefreshed (N : Nat) (X : zh_T) (x0 : Nat) (x1 : Int32) : Option (Unit × zh_T) :=
  zb1 (zgi X x0 6 1) fun v2 =>
  zb1 (zck X x0 6) fun _ =>
  zb2 (f_Secondary_rest N X x0 (x1 + v2)) fun _ X6 =>
  zb1 (zgi X6 x0 6 3) fun v8 =>
  zb1 (zp X6 x0 6 12 (.int (x1 + v8))) fun X9 =>
  some ((), X9)
def f_Wire_sendFetch (N : Nat) (X : zh_T) (x0 : Nat) (x1 : Int32) (x2 : Int32) (x3 : Int32) : Option (Unit × zh_T) :=
  zb1 (zck X x0 7) fun _ =>
  zb2 (f_Wire_put N X x0 4 x1 x3) fun q3 X4 =>
  zbo q3 (
    some ((), X4)) fun a5 =>
  zb1 (zpz X4 a5 3 3 x2) fun X6 =>
  some ((), X6)
def f_Secondary_hearTell (N : Nat) (X : zh_T) (x0 : Nat) (x1 : Int32) (x2 : Int32) (x3 : Int32) (x4 : Nat) : Option (Unit × zh_T) :=
  zb1 (zgi X x0 6 9) fun v2 =>
  if v2 = 1 then
    zb1 (zck X x0 6) fun _ =>
    zb1 (f_Secondary_lacks N X x0 x1) fun v6 =>
    if v6 = 0 then
      zb1 (zck X x0 6) fun _ =>
      zb2 (f_Secondary_becomeRefreshed N X x0 x3) fun _ X30 =>
      some ((), X30)
    else
      if x2 = 0 then
        zb1 (zgi X x0 6 2) fun v10 =>
        zb1 (zck X x0 6) fun _ =>
        zb2 (f_Secondary_rest N X x0 (x3 + v10)) fun _ X14 =>
        some ((), X14)
      else
        zb1 (zgi X x0 6 0) fun v16 =>
        zb1 (zgi X x0 6 7) fun v18 =>
        zb1 (zgi X x0 6 8) fun v20 =>
        zb1 (zck X x4 7) fun _ =>
        zb2 (f_Wire_sendFetch N X x4 v16 v18 v20) fun _ X24 =>
        zb1 (zp X24 x0 6 9 (.int 2)) fun X25 =>
        some ((), X25)
  else
    some ((), X)
def f_Secondary_loseStream (N : Nat) (X : zh_T) (x0 : Nat) (x1 : Int32) : Option (Unit × zh_T) :=
  zb1 (zgi X x0 6 9) fun v2 =>
  if v2 = 2 then
    zb1 (zgi X x0 6 2) fun v5 =>
    zb1 (zck X x0 6) fun _ =>
    zb2 (f_Secondary_rest N X x0 (x1 + v5)) fun _ X9 =>
    some ((), X9)
  else
    some ((), X)
def L_Records_copyFrom_2 (N : Nat) (w0 : Nat) (w1 : Nat) : Nat → zh_T → Int32 → Option (Unit × zh_T)
  | 0, _, _ => none
  | n + 1, X, w2 =>
    zb1 (zgr X w0 5 0) fun a2 =>
    zb1 (zln X 0 a2) fun v3 =>
    if v3 ≤ w2 then
      some ((), X)
    else
      zb1 (zgr X w0 5 0) fun a7 =>
      zb1 (zgr X w1 5 0) fun a9 =>
      zb1 (zai X a9 w2) fun v10 =>
      zb1 (zsi X a7 w2 v10) fun X12 =>
      L_Records_copyFrom_2 N w0 w1 n X12 (w2 + 1)
def f_Records_copyFrom (N : Nat) (X : zh_T) (x0 : Nat) (x1 : Nat) : Option (Unit × zh_T) :=
  zb2 (L_Records_copyFrom_2 N x0 x1 N X 0) fun v14 X16 =>
  some ((), X16)
def f_ZoneNodes_formOf (N : Nat) (X : zh_T) (x0 : Int32) : Option Int32 :=
  some (x0 / 1000)
def f_ZoneNodes_nameOf (N : Nat) (X : zh_T) (x0 : Int32) : Option Int32 :=
  some (zi_rem (x0 / 100) 10)
def f_ZoneNodes_typeOf (N : Nat) (X : zh_T) (x0 : Int32) : Option Int32 :=
  some (zi_rem (x0 / 10) 10)
def f_ZoneNodes_valueOf (N : Nat) (X : zh_T) (x0 : Int32) : Option Int32 :=
  some (zi_rem x0 10)
def f_Records_takeAway (N : Nat) (X : zh_T) (x0 : Nat) (x1 : Int32) (x2 : Int32) (x3 : Int32) : Option (Unit × zh_T) :=
  zb1 (zck X x0 5) fun _ =>
  zb1 (f_Records_valuesOf N X x0 x1 x2) fun v3 =>
  zb1 (zck X x0 5) fun _ =>
  zb2 (f_Records_setValues N X x0 x1 x2 (v3 &&& ((1 <<< (x3 &&& 31)) ^^^ (-1)))) fun _ X7 =>
  some ((), X7)
def f_Records_takeItem (N : Nat) (X : zh_T) (x0 : Nat) (x1 : Int32) : Option (Unit × zh_T) :=
  zb1 (f_ZoneNodes_formOf N X x1) fun v2 =>
  if v2 = 1 then
    zb1 (f_ZoneNodes_nameOf N X x1) fun v15 =>
    zb1 (f_ZoneNodes_typeOf N X x1) fun v17 =>
    zb1 (f_ZoneNodes_valueOf N X x1) fun v19 =>
    zb1 (zck X x0 5) fun _ =>
    zb2 (f_Records_takeAway N X x0 v15 v17 v19) fun _ X23 =>
    some ((), X23)
  else
    zb1 (f_ZoneNodes_nameOf N X x1) fun v5 =>
    zb1 (f_ZoneNodes_typeOf N X x1) fun v7 =>
    zb1 (f_ZoneNodes_valueOf N X x1) fun v9 =>
    zb1 (zck X x0 5) fun _ =>
    zb2 (f_Records_put N X x0 v5 v7 v9) fun _ X13 =>
    some ((), X13)
def L_Records_empty_2 (N : Nat) (w0 : Nat) : Nat → zh_T → Int32 → Option (Unit × zh_T)
  | 0, _, _ => none
  | n + 1, X, w1 =>
    zb1 (zgr X w0 5 0) fun a2 =>
    zb1 (zln X 0 a2) fun v3 =>
    if v3 ≤ w1 then
      some ((), X)
    else
      zb1 (zgr X w0 5 0) fun a7 =>
      zb1 (zsi X a7 w1 0) fun X8 =>
      L_Records_empty_2 N w0 n X8 (w1 + 1)
def f_Records_empty (N : Nat) (X : zh_T) (x0 : Nat) : Option (Unit × zh_T) :=
  zb2 (L_Records_empty_2 N x0 N X 0) fun v10 X12 =>
  some ((), X12)
def f_Secondary_beginIncoming (N : Nat) (X : zh_T) (x0 : Nat) (x1 : Int32) : Option (Unit × zh_T) :=
  if x1 = 0 then
    zb1 (zgr X x0 6 5) fun a3 =>
    zb1 (zgr X x0 6 4) fun a5 =>
    zb1 (zck X a3 5) fun _ =>
    zb2 (f_Records_copyFrom N X a3 a5) fun _ X9 =>
    some ((), X9)
  else
    zb1 (zgr X x0 6 5) fun a11 =>
    zb1 (zck X a11 5) fun _ =>
    zb2 (f_Records_empty N X a11) fun _ X15 =>
    some ((), X15)
def L_Secondary_takePart_17 (N : Nat) (w0 : Nat) (w1 : Nat) (w2 : Int32) : Nat → zh_T → Int32 → Option (Unit × zh_T)
  | 0, _, _ => none
  | n + 1, X, w3 =>
    zb1 (zgi X w1 3 6) fun v5 =>
    if v5 ≤ w3 then
      some ((), X)
    else
      zb1 (zgr X w0 6 5) fun a8 =>
      zb1 (zgr X w1 3 0) fun a10 =>
      zb1 (zai X a10 w3) fun v11 =>
      zb1 (zck X a8 5) fun _ =>
      zb2 (f_Records_takeItem N X a8 v11) fun _ X16 =>
      L_Secondary_takePart_17 N w0 w1 w2 n X16 (w3 + 1)
def f_Secondary_takePart (N : Nat) (X : zh_T) (x0 : Nat) (x1 : Nat) (x2 : Int32) : Option (Unit × zh_T) :=
  zb1 (zgi X x1 3 5) fun v2 =>
  if v2 = 0 then
    zb1 (zgi X x1 3 7) fun v42 =>
    zb1 (zck X x0 6) fun _ =>
    zb2 (f_Secondary_beginIncoming N X x0 v42) fun _ X46 =>
    zb2 (L_Secondary_takePart_17 N x0 x1 x2 N X46 0) fun v47 X49 =>
    zb1 (zgi X49 x1 3 8) fun v51 =>
    if v51 = 0 then
      some ((), X49)
    else
      zb1 (zgr X49 x0 6 4) fun a54 =>
      zb1 (zgr X49 x0 6 5) fun a56 =>
      zb1 (zck X49 a54 5) fun _ =>
      zb2 (f_Records_copyFrom N X49 a54 a56) fun _ X60 =>
      zb1 (zgi X60 x1 3 4) fun v62 =>
      zb1 (zp X60 x0 6 8 (.int v62)) fun X63 =>
      zb1 (zpz X63 x0 6 7 1) fun X65 =>
      zb1 (zck X65 x0 6) fun _ =>
      zb2 (f_Secondary_becomeRefreshed N X65 x0 x2) fun _ X70 =>
      some ((), X70)
  else
    zb2 (L_Secondary_takePart_17 N x0 x1 x2 N X 0) fun v17 X19 =>
    zb1 (zgi X19 x1 3 8) fun v21 =>
    if v21 = 0 then
      some ((), X19)
    else
      zb1 (zgr X19 x0 6 4) fun a24 =>
      zb1 (zgr X19 x0 6 5) fun a26 =>
      zb1 (zck X19 a24 5) fun _ =>
      zb2 (f_Records_copyFrom N X19 a24 a26) fun _ X30 =>
      zb1 (zgi X30 x1 3 4) fun v32 =>
      zb1 (zp X30 x0 6 8 (.int v32)) fun X33 =>
      zb1 (zpz X33 x0 6 7 1) fun X35 =>
      zb1 (zck X35 x0 6) fun _ =>
      zb2 (f_Secondary_becomeRefreshed N X35 x0 x2) fun _ X40 =>
      some ((), X40)
def L_Wire_takeOut_11 (N : Nat) (w0 : Nat) (w2 : Nat) : Nat → zh_T → Int32 → Option (Unit × zh_T)
  | 0, _, _ => none
  | n + 1, X, w3 =>
    zb1 (zgi X w0 7 1) fun v6 =>
    if v6 ≤ w3 then
      some ((), X)
    else
      zb1 (zgr X w0 7 0) fun a9 =>
      zb1 (zgr X w0 7 0) fun a11 =>
      zb1 (zar X 3 a11 w3) fun a13 =>
      zb1 (zsr X 3 3 a9 (w3 - 1) a13) fun X14 =>
      L_Wire_takeOut_11 N w0 w2 n X14 (w3 + 1)
def f_Wire_takeOut (N : Nat) (X : zh_T) (x0 : Nat) (x1 : Int32) : Option (Unit × zh_T) :=
  zb1 (zgr X x0 7 0) fun a2 =>
  zb1 (zar X 3 a2 x1) fun a4 =>
  zb2 (L_Wire_takeOut_11 N x0 a4 N X (x1 + 1)) fun v16 X18 =>
  zb1 (zgi X18 x0 7 1) fun v20 =>
  zb1 (zp X18 x0 7 1 (.int (v20 - 1))) fun X21 =>
  zb1 (zgr X21 x0 7 0) fun a24 =>
  zb1 (zgi X21 x0 7 1) fun v26 =>
  zb1 (zsr X21 3 3 a24 v26 a4) fun X27 =>
  some ((), X27)
def L_Wire_endStreamOf_7 (N : Nat) (w0 : Nat) (w1 : Int32) : Nat → zh_T → Int32 → Option (Unit × zh_T)
  | 0, _, _ => none
  | n + 1, X, w2 =>
    if w2 < 0 then
      some ((), X)
    else
      zb1 (zgr X w0 7 0) fun a5 =>
      zb1 (zar X 3 a5 w2) fun a7 =>
      zb1 (zck X a7 3) fun _ =>
      zb1 (f_Message_isOnStream N X a7) fun v10 =>
      if v10 = 0 then
        L_Wire_endStreamOf_7 N w0 w1 n X (w2 + (-1))
      else
        zb1 (zgr X w0 7 0) fun a13 =>
        zb1 (zar X 3 a13 w2) fun a15 =>
        zb1 (zgi X a15 3 2) fun v17 =>
        if v17 = w1 then
          zb1 (zck X w0 7) fun _ =>
          zb2 (f_Wire_takeOut N X w0 w2) fun _ X22 =>
          L_Wire_endStreamOf_7 N w0 w1 n X22 (w2 + (-1))
        else
          L_Wire_endStreamOf_7 N w0 w1 n X (w2 + (-1))
def f_Wire_endStreamOf (N : Nat) (X : zh_T) (x0 : Nat) (x1 : Int32) : Option (Unit × zh_T) :=
  zb1 (zgi X x0 7 1) fun v2 =>
  zb2 (L_Wire_endStreamOf_7 N x0 x1 N X (v2 - 1)) fun v23 X25 =>
  some ((), X25)
def f_ZoneNodes_arriveAtSecondary (N : Nat) (X : zh_T) (x0 : Nat) (x1 : Nat) (x2 : Nat) : Option (Unit × zh_T) :=
  zb1 (zgi X x2 6 6) fun v2 =>
  if v2 = 0 then
    some ((), X)
  else
    zb1 (zgi X x1 3 1) fun v5 =>
    if v5 = 1 then
      zb1 (zgi X x1 3 4) fun v48 =>
      zb1 (zgi X x0 8 6) fun v50 =>
      zb1 (zgr X x0 8 3) fun a52 =>
      zb1 (zck X x2 6) fun _ =>
      zb2 (f_Secondary_hearNotify N X x2 v48 v50 a52) fun _ X56 =>
      some ((), X56)
    else
      zb1 (zgi X x1 3 1) fun v8 =>
      if v8 = 3 then
        zb1 (zgi X x1 3 4) fun v34 =>
        zb1 (zgr X x0 8 4) fun a36 =>
        zb1 (zgi X a36 4 8) fun v38 =>
        zb1 (zgi X x0 8 6) fun v40 =>
        zb1 (zgr X x0 8 3) fun a42 =>
        zb1 (zck X x2 6) fun _ =>
        zb2 (f_Secondary_hearTell N X x2 v34 v38 v40 a42) fun _ X46 =>
        some ((), X46)
      else
        zb1 (zgi X x1 3 9) fun v11 =>
        if v11 = 0 then
          zb1 (zgi X x0 8 6) fun v14 =>
          zb1 (zck X x2 6) fun _ =>
          zb2 (f_Secondary_takePart N X x2 x1 v14) fun _ X18 =>
          some ((), X18)
        else
          zb1 (zgr X x0 8 3) fun a20 =>
          zb1 (zgi X x2 6 0) fun v22 =>
          zb1 (zck X a20 7) fun _ =>
          zb2 (f_Wire_endStreamOf N X a20 v22) fun _ X26 =>
          zb1 (zgi X26 x0 8 6) fun v28 =>
          zb1 (zck X26 x2 6) fun _ =>
          zb2 (f_Secondary_loseStream N X26 x2 v28) fun _ X32 =>
          some ((), X32)
def f_ZoneNodes_isRecord (N : Nat) (X : zh_T) (x0 : Int32) (x1 : Int32) (x2 : Int32) : Option Int32 :=
  zb1 (f_ZoneNodes_within N X x0 0 7) fun v2 =>
  if v2 = 0 then
    some 0
  else
    zb1 (f_ZoneNodes_within N X x1 1 4) fun v5 =>
    if v5 = 0 then
      some 0
    else
      zb1 (f_ZoneNodes_within N X x2 0 7) fun v8 =>
      if v8 = 0 then
        some 0
      else
        some 1
def f_Draft_addChange (N : Nat) (X : zh_T) (x0 : Nat) (x1 : Int32) : Option (Int32 × zh_T) :=
  zb1 (zgi X x0 0 3) fun v2 =>
  if v2 < 4 then
    zb1 (zgr X x0 0 1) fun a5 =>
    zb1 (zgi X x0 0 3) fun v7 =>
    zb1 (zsi X a5 v7 x1) fun X8 =>
    zb1 (zgi X8 x0 0 3) fun v11 =>
    zb1 (zp X8 x0 0 3 (.int (v11 + 1))) fun X12 =>
    some (1, X12)
  else
    some (0, X)
def f_ZoneNodes_change (N : Nat) (X : zh_T) (x0 : Nat) (x1 : Int32) (x2 : Int32) (x3 : Int32) (x4 : Int32) : Option (Int32 × zh_T) :=
  zb1 (f_ZoneNodes_within N X x1 0 3) fun v2 =>
  if v2 = 0 then
    some (0, X)
  else
    zb1 (f_ZoneNodes_isRecord N X x2 x3 x4) fun v5 =>
    if v5 = 0 then
      some (0, X)
    else
      zb1 (zgr X x0 8 2) fun a8 =>
      zb1 (f_ZoneNodes_coded N X x1 x2 x3 x4) fun v10 =>
      zb1 (zck X a8 0) fun _ =>
      zb2 (f_Draft_addChange N X a8 v10) fun v13 X14 =>
      if v13 = 0 then
        some (0, X14)
      else
        some (1, X14)
def f_ZoneNodes_isNode (N : Nat) (X : zh_T) (x0 : Int32) : Option Int32 :=
  zb1 (f_ZoneNodes_within N X x0 0 2) fun v2 =>
  zb1 (zbz v2) fun v3 =>
  some v3
def f_ZoneNodes_isUp (N : Nat) (X : zh_T) (x0 : Nat) (x1 : Int32) : Option Int32 :=
  if x1 = 0 then
    zb1 (zgr X x0 8 4) fun a11 =>
    zb1 (zgi X a11 4 8) fun v13 =>
    zb1 (zbz v13) fun v14 =>
    some v14
  else
    zb1 (zgr X x0 8 5) fun a3 =>
    zb1 (zar X 4 a3 (x1 - 1)) fun a5 =>
    zb1 (zgi X a5 6 6) fun v7 =>
    zb1 (zbz v7) fun v8 =>
    some v8
def L_ZoneNodes_takePrimaryDown_18 (N : Nat) (w0 : Nat) : Nat → zh_T → Int32 → Option (Unit × zh_T)
  | 0, _, _ => none
  | n + 1, X, w1 =>
    if 2 ≤ w1 then
      some ((), X)
    else
      zb1 (zgr X w0 8 3) fun a11 =>
      zb1 (zck X a11 7) fun _ =>
      zb2 (f_Wire_endStreamOf N X a11 (w1 + 1)) fun _ X15 =>
      zb1 (zgr X15 w0 8 5) fun a17 =>
      zb1 (zar X15 4 a17 w1) fun a19 =>
      zb1 (zgi X15 w0 8 6) fun v21 =>
      zb1 (zck X15 a19 6) fun _ =>
      zb2 (f_Secondary_loseStream N X15 a19 v21) fun _ X25 =>
      L_ZoneNodes_takePrimaryDown_18 N w0 n X25 (w1 + 1)
def f_ZoneNodes_takePrimaryDown (N : Nat) (X : zh_T) (x0 : Nat) : Option (Unit × zh_T) :=
  zb1 (zgr X x0 8 4) fun a2 =>
  zb1 (zpz X a2 4 8 0) fun X3 =>
  zb1 (zgr X3 x0 8 4) fun a6 =>
  zb1 (zp X3 a6 4 7 (.int 0)) fun X7 =>
  zb2 (L_ZoneNodes_takePrimaryDown_18 N x0 N X7 0) fun v26 X28 =>
  some ((), X28)
def f_ZoneNodes_crash (N : Nat) (X : zh_T) (x0 : Nat) (x1 : Int32) : Option (Int32 × zh_T) :=
  zb1 (f_ZoneNodes_isNode N X x1) fun v2 =>
  if v2 = 0 then
    some (0, X)
  else
    zb1 (zck X x0 8) fun _ =>
    zb1 (f_ZoneNodes_isUp N X x0 x1) fun v6 =>
    if v6 = 0 then
      some (0, X)
    else
      if x1 = 0 then
        zb1 (zck X x0 8) fun _ =>
        zb2 (f_ZoneNodes_takePrimaryDown N X x0) fun _ X24 =>
        some (1, X24)
      else
        zb1 (zgr X x0 8 3) fun a10 =>
        zb1 (zck X a10 7) fun _ =>
        zb2 (f_Wire_endStreamOf N X a10 x1) fun _ X14 =>
        zb1 (zgr X14 x0 8 5) fun a16 =>
        zb1 (zar X14 4 a16 (x1 - 1)) fun a18 =>
        zb1 (zpz X14 a18 6 6 0) fun X19 =>
        some (1, X19)
def L_Wire_isBehindAnotherPart_17 (N : Nat) (X : zh_T) (w0 : Nat) (w1 : Int32) : Nat → Int32 → Option (Int32 ⊕ Unit)
  | 0, _ => none
  | n + 1, w2 =>
    if w1 ≤ w2 then
      some (Sum.inr ())
    else
      zb1 (zgr X w0 7 0) fun a10 =>
      zb1 (zar X 3 a10 w2) fun a12 =>
      zb1 (zgi X a12 3 1) fun v14 =>
      if v14 = 5 then
        zb1 (zgr X w0 7 0) fun a17 =>
        zb1 (zar X 3 a17 w2) fun a19 =>
        zb1 (zgi X a19 3 2) fun v21 =>
        zb1 (zgr X w0 7 0) fun a23 =>
        zb1 (zar X 3 a23 w1) fun a25 =>
        zb1 (zgi X a25 3 2) fun v27 =>
        if v21 = v27 then
          some (Sum.inl 1)
        else
          L_Wire_isBehindAnotherPart_17 N X w0 w1 n (w2 + 1)
      else
        L_Wire_isBehindAnotherPart_17 N X w0 w1 n (w2 + 1)
def f_Wire_isBehindAnotherPart (N : Nat) (X : zh_T) (x0 : Nat) (x1 : Int32) : Option Int32 :=
  zb1 (zgr X x0 7 0) fun a2 =>
  zb1 (zar X 3 a2 x1) fun a4 =>
  zb1 (zgi X a4 3 1) fun v6 =>
  if v6 = 5 then
    zbs (L_Wire_isBehindAnotherPart_17 N X x0 x1 N 0) (fun r0 => some r0) fun v29 =>
    some 0
  else
    some 0
def f_ZoneNodes_deliver (N : Nat) (X : zh_T) (x0 : Nat) (x1 : Int32) : Option (Int32 × zh_T) :=
  zb1 (zgr X x0 8 3) fun a2 =>
  zb1 (zck X a2 7) fun _ =>
  zb1 (f_Wire_at N X a2 x1) fun q5 =>
  zbo q5 (
    some (0, X)) fun a6 =>
  zb1 (zgr X x0 8 3) fun a8 =>
  zb1 (zck X a8 7) fun _ =>
  zb1 (f_Wire_isBehindAnotherPart N X a8 x1) fun v11 =>
  if v11 = 0 then
    zb1 (zgr X x0 8 3) fun a14 =>
    zb1 (zck X a14 7) fun _ =>
    zb2 (f_Wire_takeOut N X a14 x1) fun _ X18 =>
    zb1 (zgi X18 a6 3 1) fun v20 =>
    if v20 = 2 then
      zb1 (zck X18 x0 8) fun _ =>
      zb2 (f_ZoneNodes_arriveAtPrimary N X18 x0 a6) fun _ X25 =>
      some (1, X25)
    else
      zb1 (zgi X18 a6 3 1) fun v27 =>
      if v27 = 4 then
        zb1 (zck X18 x0 8) fun _ =>
        zb2 (f_ZoneNodes_arriveAtPrimary N X18 x0 a6) fun _ X42 =>
        some (1, X42)
      else
        zb1 (zgr X18 x0 8 5) fun a30 =>
        zb1 (zgi X18 a6 3 2) fun v32 =>
        zb1 (zar X18 4 a30 (v32 - 1)) fun a34 =>
        zb1 (zck X18 x0 8) fun _ =>
        zb2 (f_ZoneNodes_arriveAtSecondary N X18 x0 a6 a34) fun _ X38 =>
        some (1, X38)
  else
    some (0, X)
def f_ZoneNodes_drop (N : Nat) (X : zh_T) (x0 : Nat) (x1 : Int32) : Option (Int32 × zh_T) :=
  zb1 (zgr X x0 8 3) fun a2 =>
  zb1 (zck X a2 7) fun _ =>
  zb1 (f_Wire_at N X a2 x1) fun q5 =>
  zbo q5 (
    some (0, X)) fun a6 =>
  zb1 (zck X a6 3) fun _ =>
  zb1 (f_Message_isOnStream N X a6) fun v9 =>
  if v9 = 0 then
    zb1 (zgr X x0 8 3) fun a12 =>
    zb1 (zck X a12 7) fun _ =>
    zb2 (f_Wire_takeOut N X a12 x1) fun _ X16 =>
    some (1, X16)
  else
    some (0, X)
def f_ZoneNodes_recordsOf (N : Nat) (X : zh_T) (x0 : Nat) (x1 : Int32) : Option (Option Nat) :=
  if x1 = 0 then
    zb1 (zgr X x0 8 4) fun a19 =>
    zb1 (zgr X a19 4 0) fun a21 =>
    some (some a21)
  else
    zb1 (f_ZoneNodes_isNode N X x1) fun v3 =>
    if v3 = 0 then
      some none
    else
      zb1 (zgr X x0 8 5) fun a6 =>
      zb1 (zar X 4 a6 (x1 - 1)) fun a8 =>
      zb1 (zgi X a8 6 7) fun v10 =>
      if v10 = 0 then
        some none
      else
        zb1 (zgr X x0 8 5) fun a13 =>
        zb1 (zar X 4 a13 (x1 - 1)) fun a15 =>
        zb1 (zgr X a15 6 4) fun a17 =>
        some (some a17)
def f_Records_contains (N : Nat) (X : zh_T) (x0 : Nat) (x1 : Int32) (x2 : Int32) (x3 : Int32) : Option Int32 :=
  zb1 (zck X x0 5) fun _ =>
  zb1 (f_Records_valuesOf N X x0 x1 x2) fun v3 =>
  if ((v3 >>> (x3 &&& 31)) &&& 1) = 1 then
    some 1
  else
    some 0
def f_ZoneNodes_has (N : Nat) (X : zh_T) (x0 : Nat) (x1 : Int32) (x2 : Int32) (x3 : Int32) (x4 : Int32) : Option Int32 :=
  zb1 (zck X x0 8) fun _ =>
  zb1 (f_ZoneNodes_recordsOf N X x0 x1) fun q3 =>
  zbo q3 (
    some 0) fun a4 =>
  zb1 (f_ZoneNodes_isRecord N X x2 x3 x4) fun v6 =>
  if v6 = 0 then
    some 0
  else
    zb1 (zck X a4 5) fun _ =>
    zb1 (f_Records_contains N X a4 x2 x3 x4) fun v10 =>
    if v10 = 0 then
      some 0
    else
      some 1
def f_ZoneNodes_journal (N : Nat) (X : zh_T) (x0 : Nat) : Option Int32 :=
  zb1 (zgr X x0 8 4) fun a2 =>
  zb1 (zgr X a2 4 2) fun a4 =>
  zb1 (zgi X a4 2 1) fun v6 =>
  some v6
def f_ZoneNodes_key (N : Nat) (X : zh_T) (x0 : Nat) (x1 : Int32) (x2 : Int32) : Option (Int32 × zh_T) :=
  zb1 (f_ZoneNodes_within N X x1 0 2) fun v2 =>
  if v2 = 0 then
    some (0, X)
  else
    zb1 (zgr X x0 8 0) fun a5 =>
    zb1 (zsi X a5 x1 x2) fun X6 =>
    zb1 (zgr X6 x0 8 1) fun a9 =>
    zb1 (zsz X6 a9 x1 1) fun X10 =>
    some (1, X10)
def f_ZoneNodes_knowsKey (N : Nat) (X : zh_T) (x0 : Nat) (x1 : Int32) : Option Int32 :=
  zb1 (f_ZoneNodes_within N X x1 0 2) fun v2 =>
  if v2 = 0 then
    some 0
  else
    zb1 (zgr X x0 8 1) fun a5 =>
    zb1 (zaz X a5 x1) fun v6 =>
    if v6 = 0 then
      some 0
    else
      some 1
def L_Records_aliasOf_2 (N : Nat) (X : zh_T) (w0 : Nat) (w1 : Int32) : Nat → Int32 → Option (Int32 ⊕ Unit)
  | 0, _ => none
  | n + 1, w2 =>
    if 8 ≤ w2 then
      some (Sum.inr ())
    else
      zb1 (zck X w0 5) fun _ =>
      zb1 (f_Records_contains N X w0 w1 2 w2) fun v4 =>
      if v4 = 0 then
        L_Records_aliasOf_2 N X w0 w1 n (w2 + 1)
      else
        some (Sum.inl w2)
def f_Records_aliasOf (N : Nat) (X : zh_T) (x0 : Nat) (x1 : Int32) : Option Int32 :=
  zbs (L_Records_aliasOf_2 N X x0 x1 N 0) (fun r0 => some r0) fun v6 =>
  some (-1)
def L_Records_hasOtherThanAlias_2 (N : Nat) (X : zh_T) (w0 : Nat) (w1 : Int32) : Nat → Int32 → Option (Int32 ⊕ Unit)
  | 0, _ => none
  | n + 1, w2 =>
    if 4 < w2 then
      some (Sum.inr ())
    else
      if w2 = 2 then
        L_Records_hasOtherThanAlias_2 N X w0 w1 n (w2 + 1)
      else
        zb1 (zck X w0 5) fun _ =>
        zb1 (f_Records_valuesOf N X w0 w1 w2) fun v5 =>
        if v5 = 0 then
          L_Records_hasOtherThanAlias_2 N X w0 w1 n (w2 + 1)
        else
          some (Sum.inl 1)
def f_Records_hasOtherThanAlias (N : Nat) (X : zh_T) (x0 : Nat) (x1 : Int32) : Option Int32 :=
  zbs (L_Records_hasOtherThanAlias_2 N X x0 x1 N 1) (fun r0 => some r0) fun v7 =>
  some 0
def f_Records_isUsed (N : Nat) (X : zh_T) (x0 : Nat) (x1 : Int32) : Option Int32 :=
  zb1 (zck X x0 5) fun _ =>
  zb1 (f_Records_valuesOf N X x0 x1 2) fun v3 =>
  if v3 = 0 then
    zb1 (zck X x0 5) fun _ =>
    zb1 (f_Records_hasOtherThanAlias N X x0 x1) fun v7 =>
    if v7 = 0 then
      some 0
    else
      some 1
  else
    some 1
def f_Integer_bitCount (N : Nat) (X : zh_T) (x0 : Int32) : Option Int32 :=
  some ((((((((x0 - ((zi_ushr x0 1) &&& 1431655765)) &&& 858993459) + ((zi_ushr (x0 - ((zi_ushr x0 1) &&& 1431655765)) 2) &&& 858993459)) + (zi_ushr (((x0 - ((zi_ushr x0 1) &&& 1431655765)) &&& 858993459) + ((zi_ushr (x0 - ((zi_ushr x0 1) &&& 1431655765)) 2) &&& 858993459)) 4)) &&& 252645135) + (zi_ushr (((((x0 - ((zi_ushr x0 1) &&& 1431655765)) &&& 858993459) + ((zi_ushr (x0 - ((zi_ushr x0 1) &&& 1431655765)) 2) &&& 858993459)) + (zi_ushr (((x0 - ((zi_ushr x0 1) &&& 1431655765)) &&& 858993459) + ((zi_ushr (x0 - ((zi_ushr x0 1) &&& 1431655765)) 2) &&& 858993459)) 4)) &&& 252645135) 8)) + (zi_ushr ((((((x0 - ((zi_ushr x0 1) &&& 1431655765)) &&& 858993459) + ((zi_ushr (x0 - ((zi_ushr x0 1) &&& 1431655765)) 2) &&& 858993459)) + (zi_ushr (((x0 - ((zi_ushr x0 1) &&& 1431655765)) &&& 858993459) + ((zi_ushr (x0 - ((zi_ushr x0 1) &&& 1431655765)) 2) &&& 858993459)) 4)) &&& 252645135) + (zi_ushr (((((x0 - ((zi_ushr x0 1) &&& 1431655765)) &&& 858993459) + ((zi_ushr (x0 - ((zi_ushr x0 1) &&& 1431655765)) 2) &&& 858993459)) + (zi_ushr (((x0 - ((zi_ushr x0 1) &&& 1431655765)) &&& 858993459) + ((zi_ushr (x0 - ((zi_ushr x0 1) &&& 1431655765)) 2) &&& 858993459)) 4)) &&& 252645135) 8)) 16)) &&& 63)
def L_ZoneNodes_lookUp_5 (N : Nat) (X : zh_T) (w0 : Nat) (w2 : Int32) : Nat → Int32 → Int32 → Option (Int32 ⊕ Unit)
  | 0, _, _ => none
  | n + 1, w3, w4 =>
    if 8 < w4 then
      some (Sum.inr ())
    else
      if w2 = 2 then
        zb1 (zck X w0 5) fun _ =>
        zb1 (f_Records_isUsed N X w0 w3) fun v18 =>
        if v18 = 0 then
          some (Sum.inl 300)
        else
          zb1 (zck X w0 5) fun _ =>
          zb1 (f_Records_valuesOf N X w0 w3 w2) fun v22 =>
          zb1 (f_Integer_bitCount N X v22) fun v24 =>
          some (Sum.inl v24)
      else
        zb1 (zck X w0 5) fun _ =>
        zb1 (f_Records_aliasOf N X w0 w3) fun v5 =>
        if 0 ≤ v5 then
          L_ZoneNodes_lookUp_5 N X w0 w2 n v5 (w4 + 1)
        else
          zb1 (zck X w0 5) fun _ =>
          zb1 (f_Records_isUsed N X w0 w3) fun v9 =>
          if v9 = 0 then
            some (Sum.inl 300)
          else
            zb1 (zck X w0 5) fun _ =>
            zb1 (f_Records_valuesOf N X w0 w3 w2) fun v13 =>
            zb1 (f_Integer_bitCount N X v13) fun v15 =>
            some (Sum.inl v15)
def f_ZoneNodes_lookUp (N : Nat) (X : zh_T) (x0 : Nat) (x1 : Int32) (x2 : Int32) : Option Int32 :=
  zbs (L_ZoneNodes_lookUp_5 N X x0 x2 N x1 0) (fun r0 => some r0) fun v25 =>
  some 200
def L_ZoneNodes_notifySecondaries_2 (N : Nat) (w0 : Nat) : Nat → zh_T → Int32 → Option (Unit × zh_T)
  | 0, _, _ => none
  | n + 1, X, w1 =>
    if 2 < w1 then
      some ((), X)
    else
      zb1 (zgr X w0 8 3) fun a3 =>
      zb1 (zgr X w0 8 4) fun a5 =>
      zb1 (zgi X a5 4 6) fun v7 =>
      zb1 (zck X a3 7) fun _ =>
      zb2 (f_Wire_sendLossy N X a3 1 w1 v7) fun _ X11 =>
      L_ZoneNodes_notifySecondaries_2 N w0 n X11 (w1 + 1)
def f_ZoneNodes_notifySecondaries (N : Nat) (X : zh_T) (x0 : Nat) : Option (Unit × zh_T) :=
  zb2 (L_ZoneNodes_notifySecondaries_2 N x0 N X 1) fun v12 X14 =>
  some ((), X14)
def f_Records_addIfAllowed (N : Nat) (X : zh_T) (x0 : Nat) (x1 : Int32) (x2 : Int32) (x3 : Int32) : Option (Unit × zh_T) :=
  if x2 = 2 then
    if x1 = 0 then
      some ((), X)
    else
      zb1 (zck X x0 5) fun _ =>
      zb1 (f_Records_hasOtherThanAlias N X x0 x1) fun v5 =>
      if v5 = 0 then
        zb1 (zck X x0 5) fun _ =>
        zb2 (f_Records_setValues N X x0 x1 2 (1 <<< (x3 &&& 31))) fun _ X10 =>
        some ((), X10)
      else
        some ((), X)
  else
    zb1 (zck X x0 5) fun _ =>
    zb1 (f_Records_valuesOf N X x0 x1 2) fun v13 =>
    if v13 = 0 then
      zb1 (zck X x0 5) fun _ =>
      zb2 (f_Records_put N X x0 x1 x2 x3) fun _ X18 =>
      some ((), X18)
    else
      some ((), X)
def f_Records_clearIfAllowed (N : Nat) (X : zh_T) (x0 : Nat) (x1 : Int32) (x2 : Int32) : Option (Unit × zh_T) :=
  if x1 = 0 then
    if x2 = 3 then
      some ((), X)
    else
      zb1 (zck X x0 5) fun _ =>
      zb2 (f_Records_setValues N X x0 x1 x2 0) fun _ X10 =>
      some ((), X10)
  else
    zb1 (zck X x0 5) fun _ =>
    zb2 (f_Records_setValues N X x0 x1 x2 0) fun _ X5 =>
    some ((), X5)
def f_Records_removeIfAllowed (N : Nat) (X : zh_T) (x0 : Nat) (x1 : Int32) (x2 : Int32) (x3 : Int32) : Option (Unit × zh_T) :=
  zb1 (zck X x0 5) fun _ =>
  zb1 (f_Records_valuesOf N X x0 x1 x2) fun v3 =>
  if v3 = (1 <<< (x3 &&& 31)) then
    if x1 = 0 then
      if x2 = 3 then
        some ((), X)
      else
        zb1 (zck X x0 5) fun _ =>
        zb2 (f_Records_takeAway N X x0 x1 x2 x3) fun _ X28 =>
        some ((), X28)
    else
      zb1 (zck X x0 5) fun _ =>
      zb2 (f_Records_takeAway N X x0 x1 x2 x3) fun _ X23 =>
      some ((), X23)
  else
    if x1 = 0 then
      if x2 = 3 then
        zb1 (zck X x0 5) fun _ =>
        zb2 (f_Records_takeAway N X x0 x1 x2 x3) fun _ X18 =>
        some ((), X18)
      else
        zb1 (zck X x0 5) fun _ =>
        zb2 (f_Records_takeAway N X x0 x1 x2 x3) fun _ X14 =>
        some ((), X14)
    else
      zb1 (zck X x0 5) fun _ =>
      zb2 (f_Records_takeAway N X x0 x1 x2 x3) fun _ X9 =>
      some ((), X9)
def L_Records_makeChange_71 (N : Nat) (w0 : Nat) (w2 : Int32) : Nat → zh_T → Int32 → Option (Unit × zh_T)
  | 0, _, _ => none
  | n + 1, X, w5 =>
    if 4 < w5 then
      some ((), X)
    else
      zb1 (zck X w0 5) fun _ =>
      zb2 (f_Records_clearIfAllowed N X w0 w2 w5) fun _ X24 =>
      L_Records_makeChange_71 N w0 w2 n X24 (w5 + 1)
def f_Records_makeChange (N : Nat) (X : zh_T) (x0 : Nat) (x1 : Int32) : Option (Unit × zh_T) :=
  zb1 (f_ZoneNodes_nameOf N X x1) fun v2 =>
  zb1 (f_ZoneNodes_typeOf N X x1) fun v4 =>
  zb1 (f_ZoneNodes_valueOf N X x1) fun v6 =>
  zb1 (f_ZoneNodes_formOf N X x1) fun v8 =>
  if v8 = 0 then
    zb1 (zck X x0 5) fun _ =>
    zb2 (f_Records_addIfAllowed N X x0 v2 v4 v6) fun _ X13 =>
    some ((), X13)
  else
    if v8 = 1 then
      zb1 (zck X x0 5) fun _ =>
      zb2 (f_Records_clearIfAllowed N X x0 v2 v4) fun _ X18 =>
      some ((), X18)
    else
      if v8 = 2 then
        zb2 (L_Records_makeChange_71 N x0 v2 N X 1) fun v25 X27 =>
        some ((), X27)
      else
        zb1 (zck X x0 5) fun _ =>
        zb2 (f_Records_removeIfAllowed N X x0 v2 v4 v6) fun _ X31 =>
        some ((), X31)
def L_Draft_changeRecords_2 (N : Nat) (w0 : Nat) (w1 : Nat) : Nat → zh_T → Int32 → Option (Unit × zh_T)
  | 0, _, _ => none
  | n + 1, X, w2 =>
    zb1 (zgi X w0 0 3) fun v2 =>
    if v2 ≤ w2 then
      some ((), X)
    else
      zb1 (zgr X w0 0 1) fun a5 =>
      zb1 (zai X a5 w2) fun v6 =>
      zb1 (zck X w1 5) fun _ =>
      zb2 (f_Records_makeChange N X w1 v6) fun _ X11 =>
      L_Draft_changeRecords_2 N w0 w1 n X11 (w2 + 1)
def f_Draft_changeRecords (N : Nat) (X : zh_T) (x0 : Nat) (x1 : Nat) : Option (Unit × zh_T) :=
  zb2 (L_Draft_changeRecords_2 N x0 x1 N X 0) fun v12 X14 =>
  some ((), X14)
def L_Records_becomeDifference_2 (N : Nat) (w0 : Nat) (w1 : Nat) (w2 : Nat) : Nat → zh_T → Int32 → Option (Unit × zh_T)
  | 0, _, _ => none
  | n + 1, X, w3 =>
    zb1 (zgr X w0 5 0) fun a2 =>
    zb1 (zln X 0 a2) fun v3 =>
    if v3 ≤ w3 then
      some ((), X)
    else
      zb1 (zgr X w0 5 0) fun a7 =>
      zb1 (zgr X w1 5 0) fun a9 =>
      zb1 (zai X a9 w3) fun v10 =>
      zb1 (zgr X w2 5 0) fun a13 =>
      zb1 (zai X a13 w3) fun v14 =>
      zb1 (zsi X a7 w3 (v10 &&& (v14 ^^^ (-1)))) fun X16 =>
      L_Records_becomeDifference_2 N w0 w1 w2 n X16 (w3 + 1)
def f_Records_becomeDifference (N : Nat) (X : zh_T) (x0 : Nat) (x1 : Nat) (x2 : Nat) : Option (Unit × zh_T) :=
  zb2 (L_Records_becomeDifference_2 N x0 x1 x2 N X 0) fun v18 X20 =>
  some ((), X20)
def f_Journal_append (N : Nat) (X : zh_T) (x0 : Nat) (x1 : Int32) (x2 : Nat) (x3 : Nat) : Option (Unit × zh_T) :=
  zb1 (zgi X x0 2 1) fun v2 =>
  zb1 (zgr X x0 2 0) fun a4 =>
  zb1 (zln X 2 a4) fun v5 =>
  if v2 < v5 then
    zb1 (zgr X x0 2 0) fun a9 =>
    zb1 (zgi X x0 2 1) fun v11 =>
    zb1 (zar X 2 a9 v11) fun a13 =>
    zb1 (zp X a13 1 2 (.int x1)) fun X14 =>
    zb1 (zpz X14 a13 1 3 0) fun X16 =>
    zb1 (zgr X16 a13 1 0) fun a19 =>
    zb1 (zck X16 a19 5) fun _ =>
    zb2 (f_Records_becomeDifference N X16 a19 x2 x3) fun _ X23 =>
    zb1 (zgr X23 a13 1 1) fun a25 =>
    zb1 (zck X23 a25 5) fun _ =>
    zb2 (f_Records_becomeDifference N X23 a25 x3 x2) fun _ X29 =>
    zb1 (zgi X29 x0 2 1) fun v31 =>
    zb1 (zp X29 x0 2 1 (.int (v31 + 1))) fun X32 =>
    some ((), X32)
  else
    some ((), X)
def f_Journal_markLatest (N : Nat) (X : zh_T) (x0 : Nat) : Option (Unit × zh_T) :=
  zb1 (zgi X x0 2 1) fun v2 =>
  if v2 ≤ 0 then
    some ((), X)
  else
    zb1 (zgr X x0 2 0) fun a5 =>
    zb1 (zgi X x0 2 1) fun v7 =>
    zb1 (zar X 2 a5 (v7 - 1)) fun a9 =>
    zb1 (zpz X a9 1 3 1) fun X10 =>
    some ((), X10)
def L_Journal_keepLatest_18 (N : Nat) (w0 : Nat) (w1 : Nat) : Nat → zh_T → Int32 → Option (Unit × zh_T)
  | 0, _, _ => none
  | n + 1, X, w2 =>
    zb1 (zgr X w0 2 0) fun a9 =>
    zb1 (zln X 2 a9) fun v10 =>
    if v10 ≤ w2 then
      some ((), X)
    else
      zb1 (zgr X w0 2 0) fun a14 =>
      zb1 (zgr X w0 2 0) fun a16 =>
      zb1 (zar X 2 a16 w2) fun a18 =>
      zb1 (zsr X 2 1 a14 (w2 - 1) a18) fun X19 =>
      L_Journal_keepLatest_18 N w0 w1 n X19 (w2 + 1)
def f_Journal_keepLatest (N : Nat) (X : zh_T) (x0 : Nat) : Option (Unit × zh_T) :=
  zb1 (zgi X x0 2 1) fun v2 =>
  if 4 < v2 then
    zb1 (zgr X x0 2 0) fun a5 =>
    zb1 (zar X 2 a5 0) fun a7 =>
    zb2 (L_Journal_keepLatest_18 N x0 a7 N X 1) fun v21 X23 =>
    zb1 (zgr X23 x0 2 0) fun a25 =>
    zb1 (zgr X23 x0 2 0) fun a27 =>
    zb1 (zln X23 2 a27) fun v28 =>
    zb1 (zsr X23 2 1 a25 (v28 - 1) a7) fun X30 =>
    zb1 (zp X30 x0 2 1 (.int 4)) fun X32 =>
    some ((), X32)
  else
    some ((), X)
def f_Journal_latest (N : Nat) (X : zh_T) (x0 : Nat) : Option (Option Nat) :=
  zb1 (zgi X x0 2 1) fun v2 =>
  if v2 ≤ 0 then
    some none
  else
    zb1 (zgr X x0 2 0) fun a5 =>
    zb1 (zgi X x0 2 1) fun v7 =>
    zb1 (zar X 2 a5 (v7 - 1)) fun a9 =>
    some (some a9)
def L_Records_exchange_2 (N : Nat) (w0 : Nat) (w1 : Nat) (w2 : Nat) : Nat → zh_T → Int32 → Option (Unit × zh_T)
  | 0, _, _ => none
  | n + 1, X, w3 =>
    zb1 (zgr X w0 5 0) fun a2 =>
    zb1 (zln X 0 a2) fun v3 =>
    if v3 ≤ w3 then
      some ((), X)
    else
      zb1 (zgr X w0 5 0) fun a7 =>
      zb1 (zgr X w0 5 0) fun a9 =>
      zb1 (zai X a9 w3) fun v10 =>
      zb1 (zgr X w1 5 0) fun a13 =>
      zb1 (zai X a13 w3) fun v14 =>
      zb1 (zgr X w2 5 0) fun a17 =>
      zb1 (zai X a17 w3) fun v18 =>
      zb1 (zsi X a7 w3 ((v10 &&& (v14 ^^^ (-1))) ||| v18)) fun X20 =>
      L_Records_exchange_2 N w0 w1 w2 n X20 (w3 + 1)
def f_Records_exchange (N : Nat) (X : zh_T) (x0 : Nat) (x1 : Nat) (x2 : Nat) : Option (Unit × zh_T) :=
  zb2 (L_Records_exchange_2 N x0 x1 x2 N X 0) fun v22 X24 =>
  some ((), X24)
def f_Primary_becomeLatest (N : Nat) (X : zh_T) (x0 : Nat) : Option (Unit × zh_T) :=
  zb1 (zgr X x0 4 2) fun a2 =>
  zb1 (zck X a2 2) fun _ =>
  zb1 (f_Journal_latest N X a2) fun q5 =>
  zbo q5 (
    some ((), X)) fun a6 =>
  zb1 (zgr X x0 4 0) fun a8 =>
  zb1 (zgr X a6 1 0) fun a10 =>
  zb1 (zgr X a6 1 1) fun a12 =>
  zb1 (zck X a8 5) fun _ =>
  zb2 (f_Records_exchange N X a8 a10 a12) fun _ X16 =>
  zb1 (zgi X16 a6 1 2) fun v18 =>
  zb1 (zp X16 x0 4 6 (.int (v18 + 1))) fun X19 =>
  zb1 (zgr X19 x0 4 2) fun a22 =>
  zb1 (zck X19 a22 2) fun _ =>
  zb2 (f_Journal_keepLatest N X19 a22) fun _ X26 =>
  some ((), X26)
def f_Primary_takeStep (N : Nat) (X : zh_T) (x0 : Nat) (x1 : Int32) : Option (Unit × zh_T) :=
  if x1 = 1 then
    zb1 (zgr X x0 4 2) fun a3 =>
    zb1 (zgi X x0 4 6) fun v5 =>
    zb1 (zgr X x0 4 0) fun a7 =>
    zb1 (zgr X x0 4 1) fun a9 =>
    zb1 (zck X a3 2) fun _ =>
    zb2 (f_Journal_append N X a3 v5 a7 a9) fun _ X13 =>
    some ((), X13)
  else
    if x1 = 2 then
      zb1 (zgr X x0 4 2) fun a16 =>
      zb1 (zck X a16 2) fun _ =>
      zb2 (f_Journal_markLatest N X a16) fun _ X20 =>
      some ((), X20)
    else
      zb1 (zck X x0 4) fun _ =>
      zb2 (f_Primary_becomeLatest N X x0) fun _ X24 =>
      some ((), X24)
def L_Primary_writeNext_2 (N : Nat) (w0 : Nat) : Nat → zh_T → Int32 → Option ((Int32 × zh_T) ⊕ (Unit × zh_T))
  | 0, _, _ => none
  | n + 1, X, w1 =>
    if 3 < w1 then
      some (Sum.inr ((), X))
    else
      zb1 (zgi X w0 4 7) fun v3 =>
      if w1 = v3 then
        some (Sum.inl (0, X))
      else
        zb1 (zck X w0 4) fun _ =>
        zb2 (f_Primary_takeStep N X w0 w1) fun _ X8 =>
        L_Primary_writeNext_2 N w0 n X8 (w1 + 1)
def f_Primary_writeNext (N : Nat) (X : zh_T) (x0 : Nat) : Option (Int32 × zh_T) :=
  zbt (L_Primary_writeNext_2 N x0 N X 1) (fun r0 X0 => some (r0, X0)) fun v9 X11 =>
  some (1, X11)
def L_Records_sameAs_2 (N : Nat) (X : zh_T) (w0 : Nat) (w1 : Nat) : Nat → Int32 → Option (Int32 ⊕ Unit)
  | 0, _ => none
  | n + 1, w2 =>
    zb1 (zgr X w0 5 0) fun a2 =>
    zb1 (zln X 0 a2) fun v3 =>
    if v3 ≤ w2 then
      some (Sum.inr ())
    else
      zb1 (zgr X w0 5 0) fun a7 =>
      zb1 (zai X a7 w2) fun v8 =>
      zb1 (zgr X w1 5 0) fun a11 =>
      zb1 (zai X a11 w2) fun v12 =>
      if v8 = v12 then
        L_Records_sameAs_2 N X w0 w1 n (w2 + 1)
      else
        some (Sum.inl 0)
def f_Records_sameAs (N : Nat) (X : zh_T) (x0 : Nat) (x1 : Nat) : Option Int32 :=
  zbs (L_Records_sameAs_2 N X x0 x1 N 0) (fun r0 => some r0) fun v15 =>
  some 1
def L_Records_total_4 (N : Nat) (X : zh_T) (w0 : Nat) : Nat → Int32 → Int32 → Option Int32
  | 0, _, _ => none
  | n + 1, w1, w2 =>
    zb1 (zgr X w0 5 0) fun a2 =>
    zb1 (zln X 0 a2) fun v3 =>
    if v3 ≤ w2 then
      some w1
    else
      zb1 (zgr X w0 5 0) fun a7 =>
      zb1 (zai X a7 w2) fun v8 =>
      zb1 (f_Integer_bitCount N X v8) fun v11 =>
      L_Records_total_4 N X w0 n (w1 + v11) (w2 + 1)
def f_Records_total (N : Nat) (X : zh_T) (x0 : Nat) : Option Int32 :=
  zb1 (L_Records_total_4 N X x0 N 0 0) fun v12 =>
  some v12
def f_ZoneNodes_makeChanges (N : Nat) (X : zh_T) (x0 : Nat) : Option (Int32 × zh_T) :=
  zb1 (zgr X x0 8 4) fun a2 =>
  zb1 (zgr X a2 4 1) fun a4 =>
  zb1 (zgr X x0 8 4) fun a6 =>
  zb1 (zgr X a6 4 0) fun a8 =>
  zb1 (zck X a4 5) fun _ =>
  zb2 (f_Records_copyFrom N X a4 a8) fun _ X12 =>
  zb1 (zgr X12 x0 8 2) fun a14 =>
  zb1 (zck X12 a14 0) fun _ =>
  zb2 (f_Draft_changeRecords N X12 a14 a4) fun _ X18 =>
  zb1 (zck X18 a4 5) fun _ =>
  zb1 (f_Records_total N X18 a4) fun v21 =>
  if v21 ≤ 24 then
    zb1 (zgr X18 x0 8 4) fun a24 =>
    zb1 (zgr X18 a24 4 0) fun a26 =>
    zb1 (zck X18 a4 5) fun _ =>
    zb1 (f_Records_sameAs N X18 a4 a26) fun v29 =>
    if v29 = 0 then
      zb1 (zgr X18 x0 8 4) fun a32 =>
      zb1 (zck X18 a32 4) fun _ =>
      zb2 (f_Primary_writeNext N X18 a32) fun v35 X36 =>
      if v35 = 0 then
        zb1 (zck X36 x0 8) fun _ =>
        zb2 (f_ZoneNodes_takePrimaryDown N X36 x0) fun _ X45 =>
        some ((-1), X45)
      else
        zb1 (zck X36 x0 8) fun _ =>
        zb2 (f_ZoneNodes_notifySecondaries N X36 x0) fun _ X41 =>
        some (0, X41)
    else
      some (0, X18)
  else
    some (2, X18)
def f_ZoneNodes_message (N : Nat) (X : zh_T) (x0 : Nat) (x1 : Int32) : Option Int32 :=
  zb1 (zgr X x0 8 3) fun a2 =>
  zb1 (zck X a2 7) fun _ =>
  zb1 (f_Wire_at N X a2 x1) fun q5 =>
  zbo q5 (
    some (-1)) fun a6 =>
  zb1 (zgi X a6 3 1) fun v8 =>
  zb1 (zgi X a6 3 2) fun v10 =>
  zb1 (zgi X a6 3 1) fun v12 =>
  if v12 = 5 then
    zb1 (zgi X a6 3 5) fun v15 =>
    zb1 (zgi X a6 3 6) fun v17 =>
    some ((((100000 * v8) + (10000 * v10)) + (100 * v15)) + v17)
  else
    some ((100000 * v8) + (10000 * v10))
