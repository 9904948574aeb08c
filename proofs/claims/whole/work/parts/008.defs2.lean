def J_ZoneNodesModel_restart_83 (N : Nat) (X : zh_T) (w0 : Nat) : Option (Int32 × zh_T) :=
  zb1 (zgi X w0 9 18) fun v18 =>
  if v18 ≤ 0 then
    zb1 (zck X w0 9) fun _ =>
    zb2 (f_ZoneNodesModel_notifyBoth N X w0) fun _ X23 =>
    some (1, X23)
  else
    zb1 (zgr X w0 9 19) fun a25 =>
    zb1 (zgi X w0 9 18) fun v27 =>
    zb1 (zai X a25 (v27 - 1)) fun v28 =>
    zb1 (zgr X w0 9 6) fun a31 =>
    zb1 (zai X a31 0) fun v32 =>
    if v28 = v32 then
      zb1 (zck X w0 9) fun _ =>
      zb2 (f_ZoneNodesModel_install N X w0) fun _ X42 =>
      some (1, X42)
    else
      zb1 (zck X w0 9) fun _ =>
      zb2 (f_ZoneNodesModel_notifyBoth N X w0) fun _ X38 =>
      some (1, X38)
def f_ZoneNodesModel_restart (N : Nat) (X : zh_T) (x0 : Nat) (x1 : Int32) : Option (Int32 × zh_T) :=
  zb1 (f_ZoneNodesModel_isNode N X x1) fun v2 =>
  if v2 = 0 then
    some (0, X)
  else
    zb1 (zgr X x0 9 4) fun a5 =>
    zb1 (zaz X a5 x1) fun v6 =>
    if v6 = 0 then
      zb1 (zgr X x0 9 4) fun a10 =>
      zb1 (zsz X a10 x1 1) fun X11 =>
      if x1 ≤ 0 then
        zb1 (zgi X11 x0 9 18) fun v15 =>
        if v15 ≤ 0 then
          J_ZoneNodesModel_restart_83 N X11 x0
        else
          zb1 (zgr X11 x0 9 20) fun a44 =>
          zb1 (zgi X11 x0 9 18) fun v46 =>
          zb1 (zaz X11 a44 (v46 - 1)) fun v47 =>
          if v47 = 0 then
            zb1 (zgi X11 x0 9 18) fun v51 =>
            zb1 (zp X11 x0 9 18 (.int (v51 - 1))) fun X52 =>
            J_ZoneNodesModel_restart_83 N X52 x0
          else
            J_ZoneNodesModel_restart_83 N X11 x0
      else
        zb1 (zck X11 x0 9) fun _ =>
        zb2 (f_ZoneNodesModel_rest N X11 x0 x1 1) fun _ X57 =>
        zb1 (zgr X57 x0 9 11) fun a59 =>
        zb1 (zgi X57 x0 9 3) fun v61 =>
        zb1 (zgi X57 x0 9 2) fun v63 =>
        zb1 (zsi X57 a59 x1 (v61 + v63)) fun X64 =>
        some (1, X64)
    else
      some (0, X)
def f_ZoneNodesModel_line (N : Nat) (X : zh_T) (x0 : Nat) (x1 : Int32) : Option Int32 :=
  zb1 (zgr X x0 9 16) fun a2 =>
  zb1 (zai X a2 (4 * x1)) fun v3 =>
  zb1 (zgr X x0 9 16) fun a6 =>
  zb1 (zai X a6 ((4 * x1) + 1)) fun v7 =>
  zb1 (zgr X x0 9 16) fun a10 =>
  zb1 (zai X a10 ((4 * x1) + 2)) fun v11 =>
  zb1 (zgr X x0 9 16) fun a14 =>
  zb1 (zai X a14 ((4 * x1) + 3)) fun v15 =>
  some ((((1000 * v3) + (100 * v7)) + (10 * v11)) + v15)
def f_ZoneNodesModel_mixed (N : Nat) (X : zh_T) (x0 : Int32) (x1 : Int32) : Option Int32 :=
  some (((x0 ^^^ x1) * 16777619) ^^^ (zi_ushr ((x0 ^^^ x1) * 16777619) 15))
def L_ZoneNodesModel_sealed_17 (N : Nat) (X : zh_T) (w0 : Nat) (w2 : Int32) : Nat → Int32 → Int32 → Option Int32
  | 0, _, _ => none
  | n + 1, w3, w4 =>
    zb1 (zgi X w0 9 14) fun v10 =>
    if v10 ≤ w4 then
      some w3
    else
      zb1 (zck X w0 9) fun _ =>
      zb1 (f_ZoneNodesModel_line N X w0 w4) fun v14 =>
      zb1 (f_ZoneNodesModel_mixed N X w3 v14) fun v16 =>
      L_ZoneNodesModel_sealed_17 N X w0 w2 n v16 (w4 + 1)
def L_ZoneNodesModel_sealed_55 (N : Nat) (X : zh_T) (w0 : Nat) (w2 : Int32) : Nat → Int32 → Int32 → Option Int32
  | 0, _, _ => none
  | n + 1, w3, w4 =>
    zb1 (zgi X w0 9 15) fun v24 =>
    if v24 ≤ w4 then
      some w3
    else
      zb1 (zck X w0 9) fun _ =>
      zb1 (f_ZoneNodesModel_line N X w0 (4 + w4)) fun v28 =>
      zb1 (f_ZoneNodesModel_mixed N X w3 v28) fun v30 =>
      L_ZoneNodesModel_sealed_55 N X w0 w2 n v30 (w4 + 1)
def f_ZoneNodesModel_sealed (N : Nat) (X : zh_T) (x0 : Nat) (x1 : Int32) (x2 : Int32) : Option Int32 :=
  zb1 (zgr X x0 9 13) fun a2 =>
  zb1 (zai X a2 x1) fun v3 =>
  zb1 (zgi X x0 9 14) fun v6 =>
  zb1 (f_ZoneNodesModel_mixed N X v3 v6) fun v8 =>
  zb1 (L_ZoneNodesModel_sealed_17 N X x0 x2 N v8 0) fun v17 =>
  zb1 (zgi X x0 9 15) fun v20 =>
  zb1 (f_ZoneNodesModel_mixed N X v17 v20) fun v22 =>
  zb1 (L_ZoneNodesModel_sealed_55 N X x0 x2 N v22 0) fun v31 =>
  zb1 (f_ZoneNodesModel_mixed N X v31 x2) fun v34 =>
  some v34
def f_ZoneNodesModel_seal (N : Nat) (X : zh_T) (x0 : Nat) (x1 : Int32) (x2 : Int32) : Option Int32 :=
  if x1 < 0 then
    some 0
  else
    if 2 < x1 then
      some 0
    else
      zb1 (zgr X x0 9 12) fun a4 =>
      zb1 (zaz X a4 x1) fun v5 =>
      if v5 = 0 then
        some 0
      else
        zb1 (zck X x0 9) fun _ =>
        zb1 (f_ZoneNodesModel_sealed N X x0 x1 x2) fun v10 =>
        some v10
def f_ZoneNodesModel_serial (N : Nat) (X : zh_T) (x0 : Nat) (x1 : Int32) : Option Int32 :=
  zb1 (f_ZoneNodesModel_isNode N X x1) fun v2 =>
  if v2 = 0 then
    some 0
  else
    zb1 (zgr X x0 9 5) fun a5 =>
    zb1 (zaz X a5 x1) fun v6 =>
    if v6 = 0 then
      some 0
    else
      zb1 (zgr X x0 9 6) fun a10 =>
      zb1 (zai X a10 x1) fun v11 =>
      some v11
def L_ZoneNodesModel_size_26 (N : Nat) (X : zh_T) (w0 : Nat) (w1 : Int32) : Nat → Int32 → Int32 → Option Int32
  | 0, _, _ => none
  | n + 1, w2, w3 =>
    if ((256 * w1) + 256) ≤ w3 then
      some w2
    else
      zb1 (zgr X w0 9 7) fun a11 =>
      zb1 (zaz X a11 w3) fun v12 =>
      if v12 = 0 then
        L_ZoneNodesModel_size_26 N X w0 w1 n (w2 + 0) (w3 + 1)
      else
        L_ZoneNodesModel_size_26 N X w0 w1 n (w2 + 1) (w3 + 1)
def f_ZoneNodesModel_size (N : Nat) (X : zh_T) (x0 : Nat) (x1 : Int32) : Option Int32 :=
  zb1 (f_ZoneNodesModel_isNode N X x1) fun v2 =>
  if v2 = 0 then
    some (-1)
  else
    zb1 (zgr X x0 9 5) fun a5 =>
    zb1 (zaz X a5 x1) fun v6 =>
    if v6 = 0 then
      some (-1)
    else
      zb1 (L_ZoneNodesModel_size_26 N X x0 x1 N 0 (256 * x1)) fun v15 =>
      some v15
def f_ZoneNodesModel_state (N : Nat) (X : zh_T) (x0 : Nat) (x1 : Int32) : Option Int32 :=
  zb1 (f_ZoneNodesModel_isNode N X x1) fun v2 =>
  if v2 = 0 then
    some (-1)
  else
    zb1 (zgr X x0 9 4) fun a5 =>
    zb1 (zaz X a5 x1) fun v6 =>
    if v6 = 0 then
      some 3
    else
      if x1 = 0 then
        some 0
      else
        zb1 (zgr X x0 9 9) fun a11 =>
        zb1 (zai X a11 x1) fun v12 =>
        some v12
def L_ZoneNodesModel_tick_32 (N : Nat) (w0 : Nat) (w1 : Int32) (w2 : Int32) : Nat → zh_T → Int32 → Option (Unit × zh_T)
  | 0, _, _ => none
  | n + 1, X, w3 =>
    if 2 < w3 then
      some ((), X)
    else
      zb1 (zgr X w0 9 9) fun a10 =>
      zb1 (zai X a10 w3) fun v11 =>
      if v11 = 1 then
        zb1 (zgr X w0 9 10) fun a46 =>
        zb1 (zai X a46 w3) fun v47 =>
        zb1 (zgi X w0 9 3) fun v50 =>
        zb1 (zgi X w0 9 1) fun v52 =>
        if (v50 - v52) < v47 then
          zb1 (zgr X w0 9 9) fun a55 =>
          zb1 (zai X a55 w3) fun v56 =>
          if v56 = 0 then
            zb1 (zgr X w0 9 10) fun a65 =>
            zb1 (zai X a65 w3) fun v66 =>
            zb1 (zgi X w0 9 3) fun v69 =>
            if v69 < v66 then
              zb1 (zgr X w0 9 4) fun a72 =>
              zb1 (zaz X a72 w3) fun v73 =>
              if v73 = 0 then
                L_ZoneNodesModel_tick_32 N w0 w1 w2 n X (w3 + 1)
              else
                L_ZoneNodesModel_tick_32 N w0 w1 w2 n X (w3 + 1)
            else
              zb1 (zgr X w0 9 4) fun a77 =>
              zb1 (zaz X a77 w3) fun v78 =>
              if v78 = 0 then
                L_ZoneNodesModel_tick_32 N w0 w1 w2 n X (w3 + 1)
              else
                zb1 (zck X w0 9) fun _ =>
                zb2 (f_ZoneNodesModel_ask N X w0 w3) fun _ X84 =>
                L_ZoneNodesModel_tick_32 N w0 w1 w2 n X84 (w3 + 1)
          else
            zb1 (zgr X w0 9 4) fun a60 =>
            zb1 (zaz X a60 w3) fun v61 =>
            if v61 = 0 then
              L_ZoneNodesModel_tick_32 N w0 w1 w2 n X (w3 + 1)
            else
              L_ZoneNodesModel_tick_32 N w0 w1 w2 n X (w3 + 1)
        else
          zb1 (zgr X w0 9 9) fun a86 =>
          zb1 (zai X a86 w3) fun v87 =>
          if v87 = 0 then
            zb1 (zgr X w0 9 10) fun a100 =>
            zb1 (zai X a100 w3) fun v101 =>
            zb1 (zgi X w0 9 3) fun v104 =>
            if v104 < v101 then
              zb1 (zgr X w0 9 4) fun a107 =>
              zb1 (zaz X a107 w3) fun v108 =>
              if v108 = 0 then
                L_ZoneNodesModel_tick_32 N w0 w1 w2 n X (w3 + 1)
              else
                zb1 (zck X w0 9) fun _ =>
                zb2 (f_ZoneNodesModel_ask N X w0 w3) fun _ X114 =>
                L_ZoneNodesModel_tick_32 N w0 w1 w2 n X114 (w3 + 1)
            else
              zb1 (zgr X w0 9 4) fun a116 =>
              zb1 (zaz X a116 w3) fun v117 =>
              if v117 = 0 then
                L_ZoneNodesModel_tick_32 N w0 w1 w2 n X (w3 + 1)
              else
                zb1 (zck X w0 9) fun _ =>
                zb2 (f_ZoneNodesModel_ask N X w0 w3) fun _ X123 =>
                L_ZoneNodesModel_tick_32 N w0 w1 w2 n X123 (w3 + 1)
          else
            zb1 (zgr X w0 9 4) fun a91 =>
            zb1 (zaz X a91 w3) fun v92 =>
            if v92 = 0 then
              L_ZoneNodesModel_tick_32 N w0 w1 w2 n X (w3 + 1)
            else
              zb1 (zck X w0 9) fun _ =>
              zb2 (f_ZoneNodesModel_ask N X w0 w3) fun _ X98 =>
              L_ZoneNodesModel_tick_32 N w0 w1 w2 n X98 (w3 + 1)
      else
        zb1 (zgr X w0 9 9) fun a15 =>
        zb1 (zai X a15 w3) fun v16 =>
        if v16 = 0 then
          zb1 (zgr X w0 9 10) fun a25 =>
          zb1 (zai X a25 w3) fun v26 =>
          zb1 (zgi X w0 9 3) fun v29 =>
          if v29 < v26 then
            zb1 (zgr X w0 9 4) fun a32 =>
            zb1 (zaz X a32 w3) fun v33 =>
            if v33 = 0 then
              L_ZoneNodesModel_tick_32 N w0 w1 w2 n X (w3 + 1)
            else
              L_ZoneNodesModel_tick_32 N w0 w1 w2 n X (w3 + 1)
          else
            zb1 (zgr X w0 9 4) fun a37 =>
            zb1 (zaz X a37 w3) fun v38 =>
            if v38 = 0 then
              L_ZoneNodesModel_tick_32 N w0 w1 w2 n X (w3 + 1)
            else
              zb1 (zck X w0 9) fun _ =>
              zb2 (f_ZoneNodesModel_ask N X w0 w3) fun _ X44 =>
              L_ZoneNodesModel_tick_32 N w0 w1 w2 n X44 (w3 + 1)
        else
          zb1 (zgr X w0 9 4) fun a20 =>
          zb1 (zaz X a20 w3) fun v21 =>
          if v21 = 0 then
            L_ZoneNodesModel_tick_32 N w0 w1 w2 n X (w3 + 1)
          else
            L_ZoneNodesModel_tick_32 N w0 w1 w2 n X (w3 + 1)
def L_ZoneNodesModel_tick_15 (N : Nat) (w0 : Nat) (w1 : Int32) : Nat → zh_T → Int32 → Option (Unit × zh_T)
  | 0, _, _ => none
  | n + 1, X, w2 =>
    if w1 ≤ w2 then
      some ((), X)
    else
      zb1 (zgi X w0 9 3) fun v5 =>
      zb1 (zp X w0 9 3 (.int (v5 + 1))) fun X6 =>
      zb2 (L_ZoneNodesModel_tick_32 N w0 w1 w2 N X6 1) fun v124 X126 =>
      L_ZoneNodesModel_tick_15 N w0 w1 n X126 (w2 + 1)
def f_ZoneNodesModel_tick (N : Nat) (X : zh_T) (x0 : Nat) (x1 : Int32) : Option (Int32 × zh_T) :=
  if x1 < 1 then
    some (0, X)
  else
    if x1 ≤ 20 then
      zb2 (L_ZoneNodesModel_tick_15 N x0 x1 N X 0) fun v127 X129 =>
      some (1, X129)
    else
      some (0, X)
def L_ZoneNodesModel_works_5 (N : Nat) (X : zh_T) (w0 : Nat) (w2 : Int32) : Nat → Int32 → Int32 → Option Int32
  | 0, _, _ => none
  | n + 1, w3, w4 =>
    if w2 ≤ w4 then
      some w3
    else
      zb1 (zgr X w0 9 23) fun a3 =>
      zb1 (zaz X a3 w4) fun v4 =>
      if v4 = 0 then
        L_ZoneNodesModel_works_5 N X w0 w2 n (w3 + 0) (w4 + 1)
      else
        L_ZoneNodesModel_works_5 N X w0 w2 n (w3 + 1) (w4 + 1)
def f_ZoneNodesModel_works (N : Nat) (X : zh_T) (x0 : Nat) (x1 : Int32) (x2 : Int32) : Option Int32 :=
  zb1 (L_ZoneNodesModel_works_5 N X x0 x2 N 0 x1) fun v7 =>
  some v7
def L_ZoneNodesModel_add_77 (N : Nat) (w0 : Nat) (w1 : Int32) (w2 : Int32) (w3 : Int32) (w6 : Int32) : Nat → zh_T → Int32 → Option (Unit × zh_T)
  | 0, _, _ => none
  | n + 1, X, w7 =>
    if 8 ≤ w7 then
      some ((), X)
    else
      if w6 = 0 then
        some ((), X)
      else
        if w2 = 2 then
          zb1 (zgr X w0 9 23) fun a17 =>
          zb1 (f_ZoneNodesModel_place N X w1 2 w7) fun v19 =>
          zb1 (zsz X a17 v19 0) fun X20 =>
          L_ZoneNodesModel_add_77 N w0 w1 w2 w3 w6 n X20 (w7 + 1)
        else
          some ((), X)
def f_ZoneNodesModel_add (N : Nat) (X : zh_T) (x0 : Nat) (x1 : Int32) (x2 : Int32) (x3 : Int32) : Option (Unit × zh_T) :=
  zb1 (zck X x0 9) fun _ =>
  zb1 (f_ZoneNodesModel_works N X x0 (32 * x1) ((32 * x1) + 32)) fun v3 =>
  zb1 (f_ZoneNodesModel_place N X x1 2 0) fun v5 =>
  zb1 (f_ZoneNodesModel_place N X x1 2 0) fun v7 =>
  zb1 (zck X x0 9) fun _ =>
  zb1 (f_ZoneNodesModel_works N X x0 v5 (v7 + 8)) fun v10 =>
  if x2 = 2 then
    if x1 = 0 then
      zb2 (L_ZoneNodesModel_add_77 N x0 x1 x2 x3 0 N X 0) fun v22 X24 =>
      some ((), X24)
    else
      if v3 = v10 then
        zb2 (L_ZoneNodesModel_add_77 N x0 x1 x2 x3 1 N X 0) fun v29 X31 =>
        zb1 (zgr X31 x0 9 23) fun a33 =>
        zb1 (f_ZoneNodesModel_place N X31 x1 x2 x3) fun v35 =>
        zb1 (zsz X31 a33 v35 1) fun X36 =>
        some ((), X36)
      else
        zb2 (L_ZoneNodesModel_add_77 N x0 x1 x2 x3 0 N X 0) fun v26 X28 =>
        some ((), X28)
  else
    if v10 = 0 then
      zb2 (L_ZoneNodesModel_add_77 N x0 x1 x2 x3 1 N X 0) fun v42 X44 =>
      zb1 (zgr X44 x0 9 23) fun a46 =>
      zb1 (f_ZoneNodesModel_place N X44 x1 x2 x3) fun v48 =>
      zb1 (zsz X44 a46 v48 1) fun X49 =>
      some ((), X49)
    else
      zb2 (L_ZoneNodesModel_add_77 N x0 x1 x2 x3 0 N X 0) fun v39 X41 =>
      some ((), X41)
def L_ZoneNodesModel_perform_85 (N : Nat) (w0 : Nat) (w2 : Int32) (w3 : Int32) (w4 : Int32) (w5 : Int32) (w6 : Int32) : Nat → zh_T → Int32 → Option (Unit × zh_T)
  | 0, _, _ => none
  | n + 1, X, w7 =>
    if ((32 * w3) + 32) ≤ w7 then
      some ((), X)
    else
      if w2 = 1 then
        if w7 < w6 then
          if w2 = 2 then
            zb1 (zgr X w0 9 23) fun a27 =>
            zb1 (zgr X w0 9 23) fun a29 =>
            zb1 (zaz X a29 w7) fun v30 =>
            if v30 = 0 then
              zb1 (zsz X a27 w7 0) fun X33 =>
              L_ZoneNodesModel_perform_85 N w0 w2 w3 w4 w5 w6 n X33 (w7 + 1)
            else
              zb1 (zsz X a27 w7 0) fun X35 =>
              L_ZoneNodesModel_perform_85 N w0 w2 w3 w4 w5 w6 n X35 (w7 + 1)
          else
            if ((w7 - (32 * w3)) / 8) = (w4 - 1) then
              zb1 (zgr X w0 9 23) fun a50 =>
              zb1 (zgr X w0 9 23) fun a52 =>
              zb1 (zaz X a52 w7) fun v53 =>
              if v53 = 0 then
                zb1 (zsz X a50 w7 0) fun X56 =>
                L_ZoneNodesModel_perform_85 N w0 w2 w3 w4 w5 w6 n X56 (w7 + 1)
              else
                zb1 (zsz X a50 w7 0) fun X58 =>
                L_ZoneNodesModel_perform_85 N w0 w2 w3 w4 w5 w6 n X58 (w7 + 1)
            else
              zb1 (zgr X w0 9 23) fun a39 =>
              zb1 (zgr X w0 9 23) fun a41 =>
              zb1 (zaz X a41 w7) fun v42 =>
              if v42 = 0 then
                zb1 (zsz X a39 w7 0) fun X45 =>
                L_ZoneNodesModel_perform_85 N w0 w2 w3 w4 w5 w6 n X45 (w7 + 1)
              else
                zb1 (zsz X a39 w7 1) fun X47 =>
                L_ZoneNodesModel_perform_85 N w0 w2 w3 w4 w5 w6 n X47 (w7 + 1)
        else
          if (w6 + 8) ≤ w7 then
            if w2 = 2 then
              zb1 (zgr X w0 9 23) fun a63 =>
              zb1 (zgr X w0 9 23) fun a65 =>
              zb1 (zaz X a65 w7) fun v66 =>
              if v66 = 0 then
                zb1 (zsz X a63 w7 0) fun X69 =>
                L_ZoneNodesModel_perform_85 N w0 w2 w3 w4 w5 w6 n X69 (w7 + 1)
              else
                zb1 (zsz X a63 w7 0) fun X71 =>
                L_ZoneNodesModel_perform_85 N w0 w2 w3 w4 w5 w6 n X71 (w7 + 1)
            else
              if ((w7 - (32 * w3)) / 8) = (w4 - 1) then
                zb1 (zgr X w0 9 23) fun a86 =>
                zb1 (zgr X w0 9 23) fun a88 =>
                zb1 (zaz X a88 w7) fun v89 =>
                if v89 = 0 then
                  zb1 (zsz X a86 w7 0) fun X92 =>
                  L_ZoneNodesModel_perform_85 N w0 w2 w3 w4 w5 w6 n X92 (w7 + 1)
                else
                  zb1 (zsz X a86 w7 0) fun X94 =>
                  L_ZoneNodesModel_perform_85 N w0 w2 w3 w4 w5 w6 n X94 (w7 + 1)
              else
                zb1 (zgr X w0 9 23) fun a75 =>
                zb1 (zgr X w0 9 23) fun a77 =>
                zb1 (zaz X a77 w7) fun v78 =>
                if v78 = 0 then
                  zb1 (zsz X a75 w7 0) fun X81 =>
                  L_ZoneNodesModel_perform_85 N w0 w2 w3 w4 w5 w6 n X81 (w7 + 1)
                else
                  zb1 (zsz X a75 w7 1) fun X83 =>
                  L_ZoneNodesModel_perform_85 N w0 w2 w3 w4 w5 w6 n X83 (w7 + 1)
          else
            zb1 (zgr X w0 9 23) fun a97 =>
            zb1 (zgr X w0 9 23) fun a99 =>
            zb1 (zaz X a99 w7) fun v100 =>
            if v100 = 0 then
              zb1 (zsz X a97 w7 0) fun X103 =>
              L_ZoneNodesModel_perform_85 N w0 w2 w3 w4 w5 w6 n X103 (w7 + 1)
            else
              zb1 (zsz X a97 w7 1) fun X105 =>
              L_ZoneNodesModel_perform_85 N w0 w2 w3 w4 w5 w6 n X105 (w7 + 1)
      else
        if w2 = 2 then
          if w7 < w6 then
            if w2 = 2 then
              zb1 (zgr X w0 9 23) fun a111 =>
              zb1 (zgr X w0 9 23) fun a113 =>
              zb1 (zaz X a113 w7) fun v114 =>
              if v114 = 0 then
                zb1 (zsz X a111 w7 0) fun X117 =>
                L_ZoneNodesModel_perform_85 N w0 w2 w3 w4 w5 w6 n X117 (w7 + 1)
              else
                zb1 (zsz X a111 w7 0) fun X119 =>
                L_ZoneNodesModel_perform_85 N w0 w2 w3 w4 w5 w6 n X119 (w7 + 1)
            else
              if ((w7 - (32 * w3)) / 8) = (w4 - 1) then
                zb1 (zgr X w0 9 23) fun a134 =>
                zb1 (zgr X w0 9 23) fun a136 =>
                zb1 (zaz X a136 w7) fun v137 =>
                if v137 = 0 then
                  zb1 (zsz X a134 w7 0) fun X140 =>
                  L_ZoneNodesModel_perform_85 N w0 w2 w3 w4 w5 w6 n X140 (w7 + 1)
                else
                  zb1 (zsz X a134 w7 0) fun X142 =>
                  L_ZoneNodesModel_perform_85 N w0 w2 w3 w4 w5 w6 n X142 (w7 + 1)
              else
                zb1 (zgr X w0 9 23) fun a123 =>
                zb1 (zgr X w0 9 23) fun a125 =>
                zb1 (zaz X a125 w7) fun v126 =>
                if v126 = 0 then
                  zb1 (zsz X a123 w7 0) fun X129 =>
                  L_ZoneNodesModel_perform_85 N w0 w2 w3 w4 w5 w6 n X129 (w7 + 1)
                else
                  zb1 (zsz X a123 w7 1) fun X131 =>
                  L_ZoneNodesModel_perform_85 N w0 w2 w3 w4 w5 w6 n X131 (w7 + 1)
          else
            if (w6 + 8) ≤ w7 then
              if w2 = 2 then
                zb1 (zgr X w0 9 23) fun a147 =>
                zb1 (zgr X w0 9 23) fun a149 =>
                zb1 (zaz X a149 w7) fun v150 =>
                if v150 = 0 then
                  zb1 (zsz X a147 w7 0) fun X153 =>
                  L_ZoneNodesModel_perform_85 N w0 w2 w3 w4 w5 w6 n X153 (w7 + 1)
                else
                  zb1 (zsz X a147 w7 0) fun X155 =>
                  L_ZoneNodesModel_perform_85 N w0 w2 w3 w4 w5 w6 n X155 (w7 + 1)
              else
                if ((w7 - (32 * w3)) / 8) = (w4 - 1) then
                  zb1 (zgr X w0 9 23) fun a170 =>
                  zb1 (zgr X w0 9 23) fun a172 =>
                  zb1 (zaz X a172 w7) fun v173 =>
                  if v173 = 0 then
                    zb1 (zsz X a170 w7 0) fun X176 =>
                    L_ZoneNodesModel_perform_85 N w0 w2 w3 w4 w5 w6 n X176 (w7 + 1)
                  else
                    zb1 (zsz X a170 w7 0) fun X178 =>
                    L_ZoneNodesModel_perform_85 N w0 w2 w3 w4 w5 w6 n X178 (w7 + 1)
                else
                  zb1 (zgr X w0 9 23) fun a159 =>
                  zb1 (zgr X w0 9 23) fun a161 =>
                  zb1 (zaz X a161 w7) fun v162 =>
                  if v162 = 0 then
                    zb1 (zsz X a159 w7 0) fun X165 =>
                    L_ZoneNodesModel_perform_85 N w0 w2 w3 w4 w5 w6 n X165 (w7 + 1)
                  else
                    zb1 (zsz X a159 w7 1) fun X167 =>
                    L_ZoneNodesModel_perform_85 N w0 w2 w3 w4 w5 w6 n X167 (w7 + 1)
            else
              zb1 (zgr X w0 9 23) fun a181 =>
              zb1 (zgr X w0 9 23) fun a183 =>
              zb1 (zaz X a183 w7) fun v184 =>
              if v184 = 0 then
                zb1 (zsz X a181 w7 0) fun X187 =>
                L_ZoneNodesModel_perform_85 N w0 w2 w3 w4 w5 w6 n X187 (w7 + 1)
              else
                zb1 (zsz X a181 w7 1) fun X189 =>
                L_ZoneNodesModel_perform_85 N w0 w2 w3 w4 w5 w6 n X189 (w7 + 1)
        else
          some ((), X)
def f_ZoneNodesModel_perform (N : Nat) (X : zh_T) (x0 : Nat) (x1 : Int32) : Option (Unit × zh_T) :=
  zb1 (zgr X x0 9 16) fun a2 =>
  zb1 (zai X a2 (4 * x1)) fun v3 =>
  zb1 (zgr X x0 9 16) fun a6 =>
  zb1 (zai X a6 ((4 * x1) + 1)) fun v7 =>
  zb1 (zgr X x0 9 16) fun a10 =>
  zb1 (zai X a10 ((4 * x1) + 2)) fun v11 =>
  zb1 (zgr X x0 9 16) fun a14 =>
  zb1 (zai X a14 ((4 * x1) + 3)) fun v15 =>
  zb1 (f_ZoneNodesModel_place N X v7 v11 v15) fun v18 =>
  zb1 (f_ZoneNodesModel_place N X 0 3 0) fun v20 =>
  if v3 = 0 then
    zb1 (zgr X x0 9 16) fun a217 =>
    zb1 (zai X a217 ((4 * x1) + 3)) fun v218 =>
    zb1 (zck X x0 9) fun _ =>
    zb2 (f_ZoneNodesModel_add N X x0 v7 v11 v218) fun _ X223 =>
    zb2 (L_ZoneNodesModel_perform_85 N x0 v3 v7 v11 v18 v20 N X223 (32 * v7)) fun v224 X226 =>
    if v18 < v20 then
      if v3 = 3 then
        zb1 (zgr X226 x0 9 23) fun a230 =>
        zb1 (zsz X226 a230 v18 0) fun X231 =>
        some ((), X231)
      else
        some ((), X226)
    else
      if (v20 + 8) ≤ v18 then
        if v3 = 3 then
          zb1 (zgr X226 x0 9 23) fun a236 =>
          zb1 (zsz X226 a236 v18 0) fun X237 =>
          some ((), X237)
        else
          some ((), X226)
      else
        zb1 (zck X226 x0 9) fun _ =>
        zb1 (f_ZoneNodesModel_works N X226 x0 v20 (v20 + 8)) fun v241 =>
        if v241 = 1 then
          if v3 = 3 then
            some ((), X226)
          else
            some ((), X226)
        else
          if v3 = 3 then
            zb1 (zgr X226 x0 9 23) fun a245 =>
            zb1 (zsz X226 a245 v18 0) fun X246 =>
            some ((), X246)
          else
            some ((), X226)
  else
    zb2 (L_ZoneNodesModel_perform_85 N x0 v3 v7 v11 v18 v20 N X (32 * v7)) fun v191 X193 =>
    if v18 < v20 then
      if v3 = 3 then
        zb1 (zgr X193 x0 9 23) fun a197 =>
        zb1 (zsz X193 a197 v18 0) fun X198 =>
        some ((), X198)
      else
        some ((), X193)
    else
      if (v20 + 8) ≤ v18 then
        if v3 = 3 then
          zb1 (zgr X193 x0 9 23) fun a203 =>
          zb1 (zsz X193 a203 v18 0) fun X204 =>
          some ((), X204)
        else
          some ((), X193)
      else
        zb1 (zck X193 x0 9) fun _ =>
        zb1 (f_ZoneNodesModel_works N X193 x0 v20 (v20 + 8)) fun v208 =>
        if v208 = 1 then
          if v3 = 3 then
            some ((), X193)
          else
            some ((), X193)
        else
          if v3 = 3 then
            zb1 (zgr X193 x0 9 23) fun a212 =>
            zb1 (zsz X193 a212 v18 0) fun X213 =>
            some ((), X213)
          else
            some ((), X193)
def L_ZoneNodesModel_exact_41 (N : Nat) (X : zh_T) (w0 : Nat) (w2 : Int32) (w3 : Int32) (w4 : Int32) (w5 : Int32) : Nat → Int32 → Int32 → Option Int32
  | 0, _, _ => none
  | n + 1, w6, w7 =>
    zb1 (zgi X w0 9 14) fun v11 =>
    if v11 ≤ w7 then
      some w6
    else
      if w6 = 0 then
        zb1 (zgr X w0 9 16) fun a15 =>
        zb1 (zai X a15 (4 * w7)) fun v16 =>
        if v16 = 3 then
          zb1 (zgr X w0 9 16) fun a20 =>
          zb1 (zai X a20 ((4 * w7) + 1)) fun v21 =>
          if v21 = w2 then
            zb1 (zgr X w0 9 16) fun a25 =>
            zb1 (zai X a25 ((4 * w7) + 2)) fun v26 =>
            if v26 = w3 then
              zb1 (zgr X w0 9 16) fun a30 =>
              zb1 (zai X a30 ((4 * w7) + 3)) fun v31 =>
              if v31 = w5 then
                L_ZoneNodesModel_exact_41 N X w0 w2 w3 w4 w5 n 1 (w7 + 1)
              else
                L_ZoneNodesModel_exact_41 N X w0 w2 w3 w4 w5 n 0 (w7 + 1)
            else
              L_ZoneNodesModel_exact_41 N X w0 w2 w3 w4 w5 n 0 (w7 + 1)
          else
            L_ZoneNodesModel_exact_41 N X w0 w2 w3 w4 w5 n 0 (w7 + 1)
        else
          L_ZoneNodesModel_exact_41 N X w0 w2 w3 w4 w5 n 0 (w7 + 1)
      else
        L_ZoneNodesModel_exact_41 N X w0 w2 w3 w4 w5 n 1 (w7 + 1)
def L_ZoneNodesModel_exact_28 (N : Nat) (X : zh_T) (w0 : Nat) (w2 : Int32) (w3 : Int32) : Nat → Int32 → Int32 → Option Int32
  | 0, _, _ => none
  | n + 1, w4, w5 =>
    if 8 ≤ w5 then
      some w4
    else
      zb1 (L_ZoneNodesModel_exact_41 N X w0 w2 w3 w4 w5 N 0 0) fun v34 =>
      if w4 = 0 then
        L_ZoneNodesModel_exact_28 N X w0 w2 w3 n 0 (w5 + 1)
      else
        zb1 (zgr X w0 9 7) fun a38 =>
        zb1 (f_ZoneNodesModel_place N X w2 w3 w5) fun v40 =>
        zb1 (zaz X a38 v40) fun v41 =>
        if v34 = v41 then
          L_ZoneNodesModel_exact_28 N X w0 w2 w3 n 1 (w5 + 1)
        else
          L_ZoneNodesModel_exact_28 N X w0 w2 w3 n 0 (w5 + 1)
def f_ZoneNodesModel_exact (N : Nat) (X : zh_T) (x0 : Nat) (x1 : Int32) : Option Int32 :=
  zb1 (zgr X x0 9 16) fun a2 =>
  zb1 (zai X a2 ((4 * x1) + 1)) fun v3 =>
  zb1 (zgr X x0 9 16) fun a6 =>
  zb1 (zai X a6 ((4 * x1) + 2)) fun v7 =>
  zb1 (L_ZoneNodesModel_exact_28 N X x0 v3 v7 N 1 0) fun v44 =>
  zb1 (zbz v44) fun v46 =>
  some v46
def L_ZoneNodesModel_count_8 (N : Nat) (X : zh_T) (w0 : Nat) (w1 : Int32) (w2 : Int32) : Nat → Int32 → Int32 → Option Int32
  | 0, _, _ => none
  | n + 1, w3, w4 =>
    if ((32 * w1) + 32) ≤ w4 then
      some w3
    else
      zb1 (zgr X w0 9 7) fun a3 =>
      zb1 (zaz X a3 w4) fun v4 =>
      if v4 = 0 then
        L_ZoneNodesModel_count_8 N X w0 w1 w2 n (w3 + 0) (w4 + 1)
      else
        if w2 = 0 then
          L_ZoneNodesModel_count_8 N X w0 w1 w2 n (w3 + 1) (w4 + 1)
        else
          if ((w4 - (32 * w1)) / 8) = (w2 - 1) then
            L_ZoneNodesModel_count_8 N X w0 w1 w2 n (w3 + 1) (w4 + 1)
          else
            L_ZoneNodesModel_count_8 N X w0 w1 w2 n (w3 + 0) (w4 + 1)
def f_ZoneNodesModel_count (N : Nat) (X : zh_T) (x0 : Nat) (x1 : Int32) (x2 : Int32) : Option Int32 :=
  zb1 (L_ZoneNodesModel_count_8 N X x0 x1 x2 N 0 (32 * x1)) fun v9 =>
  some v9
def f_ZoneNodesModel_meets (N : Nat) (X : zh_T) (x0 : Nat) (x1 : Int32) : Option Int32 :=
  zb1 (zgr X x0 9 16) fun a2 =>
  zb1 (zai X a2 (4 * x1)) fun v3 =>
  zb1 (zgr X x0 9 16) fun a6 =>
  zb1 (zai X a6 ((4 * x1) + 1)) fun v7 =>
  zb1 (zck X x0 9) fun _ =>
  zb1 (f_ZoneNodesModel_count N X x0 v7 0) fun v11 =>
  zb1 (zgr X x0 9 16) fun a13 =>
  zb1 (zai X a13 ((4 * x1) + 1)) fun v14 =>
  zb1 (zgr X x0 9 16) fun a17 =>
  zb1 (zai X a17 ((4 * x1) + 2)) fun v18 =>
  zb1 (zck X x0 9) fun _ =>
  zb1 (f_ZoneNodesModel_count N X x0 v14 v18) fun v22 =>
  if v3 = 0 then
    if v11 ≤ 0 then
      some 0
    else
      some 1
  else
    if v3 = 1 then
      if v11 = 0 then
        some 1
      else
        some 0
    else
      if v3 = 2 then
        if v22 ≤ 0 then
          some 0
        else
          some 1
      else
        if v3 = 4 then
          if v22 = 0 then
            some 1
          else
            some 0
        else
          some 1
def L_ZoneNodesModel_refusal_68 (N : Nat) (X : zh_T) (w0 : Nat) : Nat → Int32 → Option (Int32 ⊕ Unit)
  | 0, _ => none
  | n + 1, w6 =>
    zb1 (zgi X w0 9 14) fun v17 =>
    if v17 ≤ w6 then
      some (Sum.inr ())
    else
      zb1 (zgr X w0 9 16) fun a20 =>
      zb1 (zai X a20 (4 * w6)) fun v21 =>
      zb1 (zck X w0 9) fun _ =>
      zb1 (f_ZoneNodesModel_meets N X w0 w6) fun v25 =>
      if v25 = 0 then
        if v21 = 0 then
          some (Sum.inl 3)
        else
          if v21 = 1 then
            some (Sum.inl 6)
          else
            if v21 = 2 then
              some (Sum.inl 8)
            else
              some (Sum.inl 7)
      else
        L_ZoneNodesModel_refusal_68 N X w0 n (w6 + 1)
def L_ZoneNodesModel_refusal_140 (N : Nat) (X : zh_T) (w0 : Nat) : Nat → Int32 → Option (Int32 ⊕ Unit)
  | 0, _ => none
  | n + 1, w6 =>
    zb1 (zgi X w0 9 14) fun v33 =>
    if v33 ≤ w6 then
      some (Sum.inr ())
    else
      zb1 (zgr X w0 9 16) fun a36 =>
      zb1 (zai X a36 (4 * w6)) fun v37 =>
      if v37 = 3 then
        zb1 (zck X w0 9) fun _ =>
        zb1 (f_ZoneNodesModel_exact N X w0 w6) fun v42 =>
        if v42 = 0 then
          some (Sum.inl 8)
        else
          L_ZoneNodesModel_refusal_140 N X w0 n (w6 + 1)
      else
        L_ZoneNodesModel_refusal_140 N X w0 n (w6 + 1)
def f_ZoneNodesModel_refusal (N : Nat) (X : zh_T) (x0 : Nat) (x1 : Int32) (x2 : Int32) (x3 : Int32) : Option Int32 :=
  if x1 < 0 then
    some 17
  else
    if 2 < x1 then
      some 17
    else
      zb1 (zgr X x0 9 12) fun a4 =>
      zb1 (zaz X a4 x1) fun v5 =>
      if v5 = 0 then
        some 17
      else
        zb1 (zck X x0 9) fun _ =>
        zb1 (f_ZoneNodesModel_sealed N X x0 x1 x2) fun v10 =>
        if x3 = v10 then
          zb1 (zgi X x0 9 3) fun v13 =>
          if 0 < (lg_cmp (x2.toInt64 - v13.toInt64) 5) then
            some 18
          else
            if 0 ≤ (lg_cmp (x2.toInt64 - v13.toInt64) (-5)) then
              zbs (L_ZoneNodesModel_refusal_68 N X x0 N 0) (fun r0 => some r0) fun v30 =>
              zbs (L_ZoneNodesModel_refusal_140 N X x0 N 0) (fun r0 => some r0) fun v44 =>
              some 0
            else
              some 18
        else
          some 16
def L_ZoneNodesModel_write_45 (N : Nat) (w0 : Nat) : Nat → zh_T → Int32 → Option (Unit × zh_T)
  | 0, _, _ => none
  | n + 1, X, w1 =>
    if 256 ≤ w1 then
      some ((), X)
    else
      zb1 (zgr X w0 9 21) fun a59 =>
      zb1 (zgi X w0 9 18) fun v61 =>
      zb1 (zgr X w0 9 23) fun a63 =>
      zb1 (zaz X a63 w1) fun v64 =>
      zb1 (zsz X a59 ((256 * v61) + w1) v64) fun X66 =>
      zb1 (zgr X66 w0 9 22) fun a69 =>
      zb1 (zgi X66 w0 9 18) fun v71 =>
      zb1 (zai X66 a69 v71) fun v72 =>
      zb1 (zgr X66 w0 9 23) fun a75 =>
      zb1 (zaz X66 a75 w1) fun v76 =>
      zb1 (zgr X66 w0 9 7) fun a79 =>
      zb1 (zaz X66 a79 w1) fun v80 =>
      if v76 = v80 then
        zb1 (zsi X66 a69 v71 (v72 + 0)) fun X85 =>
        L_ZoneNodesModel_write_45 N w0 n X85 (w1 + 1)
      else
        zb1 (zsi X66 a69 v71 (v72 + 1)) fun X83 =>
        L_ZoneNodesModel_write_45 N w0 n X83 (w1 + 1)
def f_ZoneNodesModel_write (N : Nat) (X : zh_T) (x0 : Nat) : Option (Int32 × zh_T) :=
  zb1 (zgi X x0 9 17) fun v2 =>
  if v2 = 1 then
    zb1 (zgi X x0 9 17) fun v5 =>
    if v5 = 1 then
      zb1 (zck X x0 9) fun _ =>
      zb2 (f_ZoneNodesModel_crash N X x0 0) fun v9 X10 =>
      some ((-1), X10)
    else
      zb1 (zgi X x0 9 17) fun v12 =>
      if v12 = 2 then
        zb1 (zck X x0 9) fun _ =>
        zb2 (f_ZoneNodesModel_crash N X x0 0) fun v33 X34 =>
        some ((-1), X34)
      else
        zb1 (zgr X x0 9 20) fun a15 =>
        zb1 (zgi X x0 9 18) fun v17 =>
        zb1 (zsz X a15 (v17 - 1) 1) fun X18 =>
        zb1 (zgi X18 x0 9 17) fun v21 =>
        if v21 = 3 then
          zb1 (zck X18 x0 9) fun _ =>
          zb2 (f_ZoneNodesModel_crash N X18 x0 0) fun v29 X30 =>
          some ((-1), X30)
        else
          zb1 (zck X18 x0 9) fun _ =>
          zb2 (f_ZoneNodesModel_install N X18 x0) fun _ X26 =>
          some (0, X26)
  else
    zb1 (zgr X x0 9 19) fun a36 =>
    zb1 (zgi X x0 9 18) fun v38 =>
    zb1 (zgr X x0 9 6) fun a40 =>
    zb1 (zai X a40 0) fun v41 =>
    zb1 (zsi X a36 v38 v41) fun X43 =>
    zb1 (zgr X43 x0 9 20) fun a46 =>
    zb1 (zgi X43 x0 9 18) fun v48 =>
    zb1 (zsz X43 a46 v48 0) fun X49 =>
    zb1 (zgr X49 x0 9 22) fun a52 =>
    zb1 (zgi X49 x0 9 18) fun v54 =>
    zb1 (zsi X49 a52 v54 0) fun X55 =>
    zb2 (L_ZoneNodesModel_write_45 N x0 N X55 0) fun v87 X89 =>
    zb1 (zgi X89 x0 9 18) fun v91 =>
    zb1 (zp X89 x0 9 18 (.int (v91 + 1))) fun X92 =>
    zb1 (zgi X92 x0 9 17) fun v95 =>
    if v95 = 1 then
      zb1 (zck X92 x0 9) fun _ =>
      zb2 (f_ZoneNodesModel_crash N X92 x0 0) fun v99 X100 =>
      some ((-1), X100)
    else
      zb1 (zgi X92 x0 9 17) fun v102 =>
      if v102 = 2 then
        zb1 (zck X92 x0 9) fun _ =>
        zb2 (f_ZoneNodesModel_crash N X92 x0 0) fun v123 X124 =>
        some ((-1), X124)
      else
        zb1 (zgr X92 x0 9 20) fun a105 =>
        zb1 (zgi X92 x0 9 18) fun v107 =>
        zb1 (zsz X92 a105 (v107 - 1) 1) fun X108 =>
        zb1 (zgi X108 x0 9 17) fun v111 =>
        if v111 = 3 then
          zb1 (zck X108 x0 9) fun _ =>
          zb2 (f_ZoneNodesModel_crash N X108 x0 0) fun v119 X120 =>
          some ((-1), X120)
        else
          zb1 (zck X108 x0 9) fun _ =>
          zb2 (f_ZoneNodesModel_install N X108 x0) fun _ X116 =>
          some (0, X116)
def L_ZoneNodesModel_update_32 (N : Nat) (w0 : Nat) (w4 : Int32) (w5 : Int32) (w6 : Int32) : Nat → zh_T → Int32 → Option (Unit × zh_T)
  | 0, _, _ => none
  | n + 1, X, w7 =>
    if 256 ≤ w7 then
      some ((), X)
    else
      zb1 (zgr X w0 9 23) fun a13 =>
      zb1 (zgr X w0 9 7) fun a15 =>
      zb1 (zaz X a15 w7) fun v16 =>
      zb1 (zsz X a13 w7 v16) fun X18 =>
      L_ZoneNodesModel_update_32 N w0 w4 w5 w6 n X18 (w7 + 1)
def L_ZoneNodesModel_update_63 (N : Nat) (w0 : Nat) (w4 : Int32) (w5 : Int32) (w6 : Int32) : Nat → zh_T → Int32 → Option (Unit × zh_T)
  | 0, _, _ => none
  | n + 1, X, w7 =>
    if w5 ≤ w7 then
      some ((), X)
    else
      if w4 = 0 then
        zb1 (zck X w0 9) fun _ =>
        zb2 (f_ZoneNodesModel_perform N X w0 (4 + w7)) fun _ X28 =>
        L_ZoneNodesModel_update_63 N w0 w4 w5 w6 n X28 (w7 + 1)
      else
        some ((), X)
def L_ZoneNodesModel_update_102 (N : Nat) (X : zh_T) (w0 : Nat) (w4 : Int32) : Nat → Int32 → Int32 → Option Int32
  | 0, _, _ => none
  | n + 1, w6, w7 =>
    if 256 ≤ w7 then
      some w6
    else
      if w6 = 0 then
        L_ZoneNodesModel_update_102 N X w0 w4 n 0 (w7 + 1)
      else
        zb1 (zgr X w0 9 23) fun a39 =>
        zb1 (zaz X a39 w7) fun v40 =>
        zb1 (zgr X w0 9 7) fun a43 =>
        zb1 (zaz X a43 w7) fun v44 =>
        if v40 = v44 then
          L_ZoneNodesModel_update_102 N X w0 w4 n 1 (w7 + 1)
        else
          L_ZoneNodesModel_update_102 N X w0 w4 n 0 (w7 + 1)
def f_ZoneNodesModel_update (N : Nat) (X : zh_T) (x0 : Nat) (x1 : Int32) (x2 : Int32) (x3 : Int32) : Option (Int32 × zh_T) :=
  zb1 (zgr X x0 9 4) fun a2 =>
  zb1 (zaz X a2 0) fun v3 =>
  if v3 = 0 then
    some ((-1), X)
  else
    zb1 (zck X x0 9) fun _ =>
    zb1 (f_ZoneNodesModel_refusal N X x0 x1 x2 x3) fun v8 =>
    zb1 (zgi X x0 9 15) fun v10 =>
    zb2 (L_ZoneNodesModel_update_32 N x0 v8 v10 1 N X 0) fun v20 X22 =>
    zb2 (L_ZoneNodesModel_update_63 N x0 v8 v10 1 N X22 0) fun v29 X31 =>
    zb1 (zp X31 x0 9 14 (.int 0)) fun X32 =>
    zb1 (zp X32 x0 9 15 (.int 0)) fun X34 =>
    zb1 (L_ZoneNodesModel_update_102 N X34 x0 v8 N 1 0) fun v47 =>
    if v8 ≤ 0 then
      zb1 (zck X34 x0 9) fun _ =>
      zb1 (f_ZoneNodesModel_works N X34 x0 0 256) fun v52 =>
      if v52 ≤ 24 then
        if v47 = 0 then
          zb1 (zck X34 x0 9) fun _ =>
          zb2 (f_ZoneNodesModel_write N X34 x0) fun v57 X58 =>
          some (v57, X58)
        else
          some (0, X34)
      else
        some (2, X34)
    else
      some (v8, X34)
def f_cell (xs : Nat → Int32) (L : Nat) (x1 : Int32) : Option Int32 :=
  if (Int32.ofNat L) ≤ x1 then
    some 0
  else
    zb1 (zsc xs L x1) fun v2 =>
    some v2
def L_ZoneNodesLaw_law_58 (N : Nat) (xs : Nat → Int32) (L : Nat) (w1 : Nat) (w2 : Nat) : Nat → zh_T → Int32 → Option ((Int32 × zh_T) ⊕ (Unit × zh_T))
  | 0, _, _ => none
  | n + 1, X, w3 =>
    if ((Int32.ofNat L) - 5) < w3 then
      some (Sum.inr ((), X))
    else
      zb1 (zsc xs L w3) fun v30 =>
      if (v30 &&& 31) = 0 then
        zb1 (zsc xs L (w3 + 1)) fun v33 =>
        zb1 (zsc xs L (w3 + 2)) fun v35 =>
        zb1 (zck X w1 8) fun _ =>
        zb2 (f_ZoneNodes_key N X w1 v33 v35) fun v39 X40 =>
        zb1 (zsc xs L (w3 + 1)) fun v41 =>
        zb1 (zsc xs L (w3 + 2)) fun v43 =>
        zb1 (zck X40 w2 9) fun _ =>
        zb2 (f_ZoneNodesModel_key N X40 w2 v41 v43) fun v47 X48 =>
        if v39 = v47 then
          L_ZoneNodesLaw_law_58 N xs L w1 w2 n X48 (w3 + 5)
        else
          some (Sum.inl (0, X48))
      else
        if (v30 &&& 31) = 1 then
          zb1 (zsc xs L (w3 + 1)) fun v51 =>
          zb1 (zsc xs L (w3 + 2)) fun v53 =>
          zb1 (zsc xs L (w3 + 3)) fun v55 =>
          zb1 (zsc xs L (w3 + 4)) fun v57 =>
          zb1 (zck X w1 8) fun _ =>
          zb2 (f_ZoneNodes_need N X w1 v51 v53 v55 v57) fun v61 X62 =>
          zb1 (zsc xs L (w3 + 1)) fun v63 =>
          zb1 (zsc xs L (w3 + 2)) fun v65 =>
          zb1 (zsc xs L (w3 + 3)) fun v67 =>
          zb1 (zsc xs L (w3 + 4)) fun v69 =>
          zb1 (zck X62 w2 9) fun _ =>
          zb2 (f_ZoneNodesModel_need N X62 w2 v63 v65 v67 v69) fun v73 X74 =>
          if v61 = v73 then
            L_ZoneNodesLaw_law_58 N xs L w1 w2 n X74 (w3 + 5)
          else
            some (Sum.inl (0, X74))
        else
          if (v30 &&& 31) = 2 then
            zb1 (zsc xs L (w3 + 1)) fun v77 =>
            zb1 (zsc xs L (w3 + 2)) fun v79 =>
            zb1 (zsc xs L (w3 + 3)) fun v81 =>
            zb1 (zsc xs L (w3 + 4)) fun v83 =>
            zb1 (zck X w1 8) fun _ =>
            zb2 (f_ZoneNodes_change N X w1 v77 v79 v81 v83) fun v87 X88 =>
            zb1 (zsc xs L (w3 + 1)) fun v89 =>
            zb1 (zsc xs L (w3 + 2)) fun v91 =>
            zb1 (zsc xs L (w3 + 3)) fun v93 =>
            zb1 (zsc xs L (w3 + 4)) fun v95 =>
            zb1 (zck X88 w2 9) fun _ =>
            zb2 (f_ZoneNodesModel_change N X88 w2 v89 v91 v93 v95) fun v99 X100 =>
            if v87 = v99 then
              L_ZoneNodesLaw_law_58 N xs L w1 w2 n X100 (w3 + 5)
            else
              some (Sum.inl (0, X100))
          else
            if (v30 &&& 31) = 3 then
              zb1 (zsc xs L (w3 + 1)) fun v103 =>
              zb1 (zsc xs L (w3 + 2)) fun v105 =>
              zb1 (zck X w1 8) fun _ =>
              zb1 (f_ZoneNodes_seal N X w1 v103 v105) fun v109 =>
              zb1 (zsc xs L (w3 + 1)) fun v110 =>
              zb1 (zsc xs L (w3 + 2)) fun v112 =>
              zb1 (zck X w2 9) fun _ =>
              zb1 (f_ZoneNodesModel_seal N X w2 v110 v112) fun v116 =>
              if v109 = v116 then
                L_ZoneNodesLaw_law_58 N xs L w1 w2 n X (w3 + 5)
              else
                some (Sum.inl (0, X))
            else
              if (v30 &&& 31) = 4 then
                zb1 (zsc xs L (w3 + 1)) fun v119 =>
                zb1 (zsc xs L (w3 + 2)) fun v121 =>
                zb1 (zsc xs L (w3 + 3)) fun v123 =>
                zb1 (zck X w1 8) fun _ =>
                zb2 (f_ZoneNodes_update N X w1 v119 v121 v123) fun v127 X128 =>
                zb1 (zsc xs L (w3 + 1)) fun v129 =>
                zb1 (zsc xs L (w3 + 2)) fun v131 =>
                zb1 (zsc xs L (w3 + 3)) fun v133 =>
                zb1 (zck X128 w2 9) fun _ =>
                zb2 (f_ZoneNodesModel_update N X128 w2 v129 v131 v133) fun v137 X138 =>
                if v127 = v137 then
                  L_ZoneNodesLaw_law_58 N xs L w1 w2 n X138 (w3 + 5)
                else
                  some (Sum.inl (0, X138))
              else
                if (v30 &&& 31) = 5 then
                  zb1 (zsc xs L (w3 + 1)) fun v141 =>
                  zb1 (zck X w1 8) fun _ =>
                  zb2 (f_ZoneNodes_arm N X w1 v141) fun v145 X146 =>
                  zb1 (zsc xs L (w3 + 1)) fun v147 =>
                  zb1 (zck X146 w2 9) fun _ =>
                  zb2 (f_ZoneNodesModel_arm N X146 w2 v147) fun v151 X152 =>
                  if v145 = v151 then
                    L_ZoneNodesLaw_law_58 N xs L w1 w2 n X152 (w3 + 5)
                  else
                    some (Sum.inl (0, X152))
                else
                  if (v30 &&& 31) = 6 then
                    zb1 (zsc xs L (w3 + 1)) fun v155 =>
                    zb1 (zck X w1 8) fun _ =>
                    zb2 (f_ZoneNodes_tick N X w1 v155) fun v159 X160 =>
                    zb1 (zsc xs L (w3 + 1)) fun v161 =>
                    zb1 (zck X160 w2 9) fun _ =>
                    zb2 (f_ZoneNodesModel_tick N X160 w2 v161) fun v165 X166 =>
                    if v159 = v165 then
                      L_ZoneNodesLaw_law_58 N xs L w1 w2 n X166 (w3 + 5)
                    else
                      some (Sum.inl (0, X166))
                  else
                    if (v30 &&& 31) = 7 then
                      zb1 (zsc xs L (w3 + 1)) fun v169 =>
                      zb1 (zck X w1 8) fun _ =>
                      zb2 (f_ZoneNodes_deliver N X w1 v169) fun v173 X174 =>
                      zb1 (zsc xs L (w3 + 1)) fun v175 =>
                      zb1 (zck X174 w2 9) fun _ =>
                      zb2 (f_ZoneNodesModel_deliver N X174 w2 v175) fun v179 X180 =>
                      if v173 = v179 then
                        L_ZoneNodesLaw_law_58 N xs L w1 w2 n X180 (w3 + 5)
                      else
                        some (Sum.inl (0, X180))
                    else
                      if (v30 &&& 31) = 8 then
                        zb1 (zsc xs L (w3 + 1)) fun v183 =>
                        zb1 (zck X w1 8) fun _ =>
                        zb2 (f_ZoneNodes_drop N X w1 v183) fun v187 X188 =>
                        zb1 (zsc xs L (w3 + 1)) fun v189 =>
                        zb1 (zck X188 w2 9) fun _ =>
                        zb2 (f_ZoneNodesModel_drop N X188 w2 v189) fun v193 X194 =>
                        if v187 = v193 then
                          L_ZoneNodesLaw_law_58 N xs L w1 w2 n X194 (w3 + 5)
                        else
                          some (Sum.inl (0, X194))
                      else
                        if (v30 &&& 31) = 9 then
                          zb1 (zsc xs L (w3 + 1)) fun v197 =>
                          zb1 (zck X w1 8) fun _ =>
                          zb2 (f_ZoneNodes_alter N X w1 v197) fun v201 X202 =>
                          zb1 (zsc xs L (w3 + 1)) fun v203 =>
                          zb1 (zck X202 w2 9) fun _ =>
                          zb2 (f_ZoneNodesModel_alter N X202 w2 v203) fun v207 X208 =>
                          if v201 = v207 then
                            L_ZoneNodesLaw_law_58 N xs L w1 w2 n X208 (w3 + 5)
                          else
                            some (Sum.inl (0, X208))
                        else
                          if (v30 &&& 31) = 10 then
                            zb1 (zsc xs L (w3 + 1)) fun v211 =>
                            zb1 (zck X w1 8) fun _ =>
                            zb2 (f_ZoneNodes_crash N X w1 v211) fun v215 X216 =>
                            zb1 (zsc xs L (w3 + 1)) fun v217 =>
                            zb1 (zck X216 w2 9) fun _ =>
                            zb2 (f_ZoneNodesModel_crash N X216 w2 v217) fun v221 X222 =>
                            if v215 = v221 then
                              L_ZoneNodesLaw_law_58 N xs L w1 w2 n X222 (w3 + 5)
                            else
                              some (Sum.inl (0, X222))
                          else
                            if (v30 &&& 31) = 11 then
                              zb1 (zsc xs L (w3 + 1)) fun v225 =>
                              zb1 (zck X w1 8) fun _ =>
                              zb2 (f_ZoneNodes_restart N X w1 v225) fun v229 X230 =>
                              zb1 (zsc xs L (w3 + 1)) fun v231 =>
                              zb1 (zck X230 w2 9) fun _ =>
                              zb2 (f_ZoneNodesModel_restart N X230 w2 v231) fun v235 X236 =>
                              if v229 = v235 then
                                L_ZoneNodesLaw_law_58 N xs L w1 w2 n X236 (w3 + 5)
                              else
                                some (Sum.inl (0, X236))
                            else
                              if (v30 &&& 31) = 12 then
                                zb1 (zck X w1 8) fun _ =>
                                zb1 (f_ZoneNodes_messages N X w1) fun v241 =>
                                zb1 (zck X w2 9) fun _ =>
                                zb1 (f_ZoneNodesModel_messages N X w2) fun v244 =>
                                if v241 = v244 then
                                  L_ZoneNodesLaw_law_58 N xs L w1 w2 n X (w3 + 5)
                                else
                                  some (Sum.inl (0, X))
                              else
                                if (v30 &&& 31) = 13 then
                                  zb1 (zsc xs L (w3 + 1)) fun v247 =>
                                  zb1 (zck X w1 8) fun _ =>
                                  zb1 (f_ZoneNodes_message N X w1 v247) fun v251 =>
                                  zb1 (zsc xs L (w3 + 1)) fun v252 =>
                                  zb1 (zck X w2 9) fun _ =>
                                  zb1 (f_ZoneNodesModel_message N X w2 v252) fun v256 =>
                                  if v251 = v256 then
                                    L_ZoneNodesLaw_law_58 N xs L w1 w2 n X (w3 + 5)
                                  else
                                    some (Sum.inl (0, X))
                                else
                                  if (v30 &&& 31) = 14 then
                                    zb1 (zsc xs L (w3 + 1)) fun v259 =>
                                    zb1 (zck X w1 8) fun _ =>
                                    zb1 (f_ZoneNodes_serial N X w1 v259) fun v263 =>
                                    zb1 (zsc xs L (w3 + 1)) fun v264 =>
                                    zb1 (zck X w2 9) fun _ =>
                                    zb1 (f_ZoneNodesModel_serial N X w2 v264) fun v268 =>
                                    if v263 = v268 then
                                      L_ZoneNodesLaw_law_58 N xs L w1 w2 n X (w3 + 5)
                                    else
                                      some (Sum.inl (0, X))
                                  else
                                    if (v30 &&& 31) = 15 then
                                      zb1 (zsc xs L (w3 + 1)) fun v271 =>
                                      zb1 (zck X w1 8) fun _ =>
                                      zb1 (f_ZoneNodes_size N X w1 v271) fun v275 =>
                                      zb1 (zsc xs L (w3 + 1)) fun v276 =>
                                      zb1 (zck X w2 9) fun _ =>
                                      zb1 (f_ZoneNodesModel_size N X w2 v276) fun v280 =>
                                      if v275 = v280 then
                                        L_ZoneNodesLaw_law_58 N xs L w1 w2 n X (w3 + 5)
                                      else
                                        some (Sum.inl (0, X))
                                    else
                                      if (v30 &&& 31) = 16 then
                                        zb1 (zsc xs L (w3 + 1)) fun v283 =>
                                        zb1 (zsc xs L (w3 + 2)) fun v285 =>
                                        zb1 (zsc xs L (w3 + 3)) fun v287 =>
                                        zb1 (zsc xs L (w3 + 4)) fun v289 =>
                                        zb1 (zck X w1 8) fun _ =>
                                        zb1 (f_ZoneNodes_has N X w1 v283 v285 v287 v289) fun v293 =>
                                        zb1 (zsc xs L (w3 + 1)) fun v294 =>
                                        zb1 (zsc xs L (w3 + 2)) fun v296 =>
                                        zb1 (zsc xs L (w3 + 3)) fun v298 =>
                                        zb1 (zsc xs L (w3 + 4)) fun v300 =>
                                        zb1 (zck X w2 9) fun _ =>
                                        zb1 (f_ZoneNodesModel_has N X w2 v294 v296 v298 v300) fun v304 =>
                                        if v293 = v304 then
                                          L_ZoneNodesLaw_law_58 N xs L w1 w2 n X (w3 + 5)
                                        else
                                          some (Sum.inl (0, X))
                                      else
                                        if (v30 &&& 31) = 17 then
                                          zb1 (zsc xs L (w3 + 1)) fun v307 =>
                                          zb1 (zsc xs L (w3 + 2)) fun v309 =>
                                          zb1 (zsc xs L (w3 + 3)) fun v311 =>
                                          zb1 (zck X w1 8) fun _ =>
                                          zb1 (f_ZoneNodes_query N X w1 v307 v309 v311) fun v315 =>
                                          zb1 (zsc xs L (w3 + 1)) fun v316 =>
                                          zb1 (zsc xs L (w3 + 2)) fun v318 =>
                                          zb1 (zsc xs L (w3 + 3)) fun v320 =>
                                          zb1 (zck X w2 9) fun _ =>
                                          zb1 (f_ZoneNodesModel_query N X w2 v316 v318 v320) fun v324 =>
                                          if v315 = v324 then
                                            L_ZoneNodesLaw_law_58 N xs L w1 w2 n X (w3 + 5)
                                          else
                                            some (Sum.inl (0, X))
                                        else
                                          if (v30 &&& 31) = 18 then
                                            zb1 (zsc xs L (w3 + 1)) fun v327 =>
                                            zb1 (zck X w1 8) fun _ =>
                                            zb1 (f_ZoneNodes_state N X w1 v327) fun v331 =>
                                            zb1 (zsc xs L (w3 + 1)) fun v332 =>
                                            zb1 (zck X w2 9) fun _ =>
                                            zb1 (f_ZoneNodesModel_state N X w2 v332) fun v336 =>
                                            if v331 = v336 then
                                              L_ZoneNodesLaw_law_58 N xs L w1 w2 n X (w3 + 5)
                                            else
                                              some (Sum.inl (0, X))
                                          else
                                            if (v30 &&& 31) = 19 then
                                              zb1 (zck X w1 8) fun _ =>
                                              zb1 (f_ZoneNodes_journal N X w1) fun v341 =>
                                              zb1 (zck X w2 9) fun _ =>
                                              zb1 (f_ZoneNodesModel_journal N X w2) fun v344 =>
                                              if v341 = v344 then
                                                L_ZoneNodesLaw_law_58 N xs L w1 w2 n X (w3 + 5)
                                              else
                                                some (Sum.inl (0, X))
                                            else
                                              L_ZoneNodesLaw_law_58 N xs L w1 w2 n X (w3 + 5)
def f_law (N : Nat) (xs : Nat → Int32) (L : Nat) (X : zh_T) : Option (Int32 × zh_T) :=
  zb2 (znw X 8 [.null, .null, .null, .null, .null, .null, .int 0]) fun a1 X2 =>
  zb1 (f_cell xs L 0) fun v4 =>
  zb1 (f_cell xs L 1) fun v6 =>
  zb1 (f_cell xs L 2) fun v8 =>
  zb1 (f_cell xs L 3) fun v10 =>
  zb2 (f_ZoneNodes_init N X2 a1 v4 v6 v8 v10) fun _ X14 =>
  zb2 (znw X14 9 [.int 0, .int 0, .int 0, .int 0, .null, .null, .null, .null, .null, .null, .null, .null, .null, .null, .int 0, .int 0, .null, .int 0, .int 0, .null, .null, .null, .null, .null, .int 0, .null, .null, .null, .null, .null, .null, .null]) fun a15 X16 =>
  zb1 (f_cell xs L 0) fun v18 =>
  zb1 (f_cell xs L 1) fun v20 =>
  zb1 (f_cell xs L 2) fun v22 =>
  zb1 (f_cell xs L 3) fun v24 =>
  zb2 (f_ZoneNodesModel_init N X16 a15 v18 v20 v22 v24) fun _ X28 =>
  zbt (L_ZoneNodesLaw_law_58 N xs L a1 a15 N X28 4) (fun r0 X0 => some (r0, X0)) fun v346 X348 =>
  some (1, X348)
