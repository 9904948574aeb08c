/-! the reference: its object and 23 rows of numbers -/
def shR (k : Nat) : zl_S := match k with
  | 0 => .inl (9, [none, none, none, none, some 1, some 2, some 3, some 4, some 5, some 6, some 7, some 8, some 9, some 10, none, none, some 11, none, none, some 12, some 13, some 14, some 15, some 16, none, some 17, some 18, some 19, some 20, some 21, some 22, some 23])
  | 1 => .inr (.inl (1, 3))
  | 2 => .inr (.inl (1, 3))
  | 3 => .inr (.inl (0, 3))
  | 4 => .inr (.inl (1, 768))
  | 5 => .inr (.inl (1, 768))
  | 6 => .inr (.inl (0, 3))
  | 7 => .inr (.inl (0, 3))
  | 8 => .inr (.inl (0, 3))
  | 9 => .inr (.inl (1, 3))
  | 10 => .inr (.inl (0, 3))
  | 11 => .inr (.inl (0, 32))
  | 12 => .inr (.inl (0, 6))
  | 13 => .inr (.inl (1, 6))
  | 14 => .inr (.inl (1, 1536))
  | 15 => .inr (.inl (0, 6))
  | 16 => .inr (.inl (1, 256))
  | 17 => .inr (.inl (0, 96))
  | 18 => .inr (.inl (0, 96))
  | 19 => .inr (.inl (0, 96))
  | 20 => .inr (.inl (0, 96))
  | 21 => .inr (.inl (0, 96))
  | 22 => .inr (.inl (1, 96))
  | _ => .inr (.inl (1, 96))
def zR (B : Nat) (Y : zh_T) (R : Nat → Nat → Int32) : zh_T := zl shR 24 B Y R (fun _ _ => 0)
section ZREF
variable {B : Nat} {Y : zh_T} {R : Nat → Nat → Int32}
theorem rck : zck (zR B Y R) B 9 = some () := zl_ck (k := 0) (by decide) rfl
theorem rg0 : zgi (zR B Y R) B 9 0 = some (R 0 0) := zl_gi (k := 0) (by decide) rfl rfl
theorem rq0 {v : Int32} : zp (zR B Y R) B 9 0 (.int v) = some (zR B Y (zu R 0 (upd (R 0) 0 v))) := zl_p (k := 0) (by decide) rfl rfl
theorem rg1 : zgi (zR B Y R) B 9 1 = some (R 0 1) := zl_gi (k := 0) (by decide) rfl rfl
theorem rq1 {v : Int32} : zp (zR B Y R) B 9 1 (.int v) = some (zR B Y (zu R 0 (upd (R 0) 1 v))) := zl_p (k := 0) (by decide) rfl rfl
theorem rg2 : zgi (zR B Y R) B 9 2 = some (R 0 2) := zl_gi (k := 0) (by decide) rfl rfl
theorem rq2 {v : Int32} : zp (zR B Y R) B 9 2 (.int v) = some (zR B Y (zu R 0 (upd (R 0) 2 v))) := zl_p (k := 0) (by decide) rfl rfl
theorem rg3 : zgi (zR B Y R) B 9 3 = some (R 0 3) := zl_gi (k := 0) (by decide) rfl rfl
theorem rq3 {v : Int32} : zp (zR B Y R) B 9 3 (.int v) = some (zR B Y (zu R 0 (upd (R 0) 3 v))) := zl_p (k := 0) (by decide) rfl rfl
theorem rr4 : zgr (zR B Y R) B 9 4 = some (B + 1) := zl_gr (k := 0) (by decide) rfl rfl
theorem rr5 : zgr (zR B Y R) B 9 5 = some (B + 2) := zl_gr (k := 0) (by decide) rfl rfl
theorem rr6 : zgr (zR B Y R) B 9 6 = some (B + 3) := zl_gr (k := 0) (by decide) rfl rfl
theorem rr7 : zgr (zR B Y R) B 9 7 = some (B + 4) := zl_gr (k := 0) (by decide) rfl rfl
theorem rr8 : zgr (zR B Y R) B 9 8 = some (B + 5) := zl_gr (k := 0) (by decide) rfl rfl
theorem rr9 : zgr (zR B Y R) B 9 9 = some (B + 6) := zl_gr (k := 0) (by decide) rfl rfl
theorem rr10 : zgr (zR B Y R) B 9 10 = some (B + 7) := zl_gr (k := 0) (by decide) rfl rfl
theorem rr11 : zgr (zR B Y R) B 9 11 = some (B + 8) := zl_gr (k := 0) (by decide) rfl rfl
theorem rr12 : zgr (zR B Y R) B 9 12 = some (B + 9) := zl_gr (k := 0) (by decide) rfl rfl
theorem rr13 : zgr (zR B Y R) B 9 13 = some (B + 10) := zl_gr (k := 0) (by decide) rfl rfl
theorem rg14 : zgi (zR B Y R) B 9 14 = some (R 0 14) := zl_gi (k := 0) (by decide) rfl rfl
theorem rq14 {v : Int32} : zp (zR B Y R) B 9 14 (.int v) = some (zR B Y (zu R 0 (upd (R 0) 14 v))) := zl_p (k := 0) (by decide) rfl rfl
theorem rg15 : zgi (zR B Y R) B 9 15 = some (R 0 15) := zl_gi (k := 0) (by decide) rfl rfl
theorem rq15 {v : Int32} : zp (zR B Y R) B 9 15 (.int v) = some (zR B Y (zu R 0 (upd (R 0) 15 v))) := zl_p (k := 0) (by decide) rfl rfl
theorem rr16 : zgr (zR B Y R) B 9 16 = some (B + 11) := zl_gr (k := 0) (by decide) rfl rfl
theorem rg17 : zgi (zR B Y R) B 9 17 = some (R 0 17) := zl_gi (k := 0) (by decide) rfl rfl
theorem rq17 {v : Int32} : zp (zR B Y R) B 9 17 (.int v) = some (zR B Y (zu R 0 (upd (R 0) 17 v))) := zl_p (k := 0) (by decide) rfl rfl
theorem rg18 : zgi (zR B Y R) B 9 18 = some (R 0 18) := zl_gi (k := 0) (by decide) rfl rfl
theorem rq18 {v : Int32} : zp (zR B Y R) B 9 18 (.int v) = some (zR B Y (zu R 0 (upd (R 0) 18 v))) := zl_p (k := 0) (by decide) rfl rfl
theorem rr19 : zgr (zR B Y R) B 9 19 = some (B + 12) := zl_gr (k := 0) (by decide) rfl rfl
theorem rr20 : zgr (zR B Y R) B 9 20 = some (B + 13) := zl_gr (k := 0) (by decide) rfl rfl
theorem rr21 : zgr (zR B Y R) B 9 21 = some (B + 14) := zl_gr (k := 0) (by decide) rfl rfl
theorem rr22 : zgr (zR B Y R) B 9 22 = some (B + 15) := zl_gr (k := 0) (by decide) rfl rfl
theorem rr23 : zgr (zR B Y R) B 9 23 = some (B + 16) := zl_gr (k := 0) (by decide) rfl rfl
theorem rg24 : zgi (zR B Y R) B 9 24 = some (R 0 24) := zl_gi (k := 0) (by decide) rfl rfl
theorem rq24 {v : Int32} : zp (zR B Y R) B 9 24 (.int v) = some (zR B Y (zu R 0 (upd (R 0) 24 v))) := zl_p (k := 0) (by decide) rfl rfl
theorem rr25 : zgr (zR B Y R) B 9 25 = some (B + 17) := zl_gr (k := 0) (by decide) rfl rfl
theorem rr26 : zgr (zR B Y R) B 9 26 = some (B + 18) := zl_gr (k := 0) (by decide) rfl rfl
theorem rr27 : zgr (zR B Y R) B 9 27 = some (B + 19) := zl_gr (k := 0) (by decide) rfl rfl
theorem rr28 : zgr (zR B Y R) B 9 28 = some (B + 20) := zl_gr (k := 0) (by decide) rfl rfl
theorem rr29 : zgr (zR B Y R) B 9 29 = some (B + 21) := zl_gr (k := 0) (by decide) rfl rfl
theorem rr30 : zgr (zR B Y R) B 9 30 = some (B + 22) := zl_gr (k := 0) (by decide) rfl rfl
theorem rr31 : zgr (zR B Y R) B 9 31 = some (B + 23) := zl_gr (k := 0) (by decide) rfl rfl
theorem ra1 {i : Nat} (h : i < 3) : zaz (zR B Y R) (B + 1) (ni i) = some (R 1 i) := zl_az (k := 1) (by decide) rfl h (by decide)
theorem rs1 {i : Nat} {v : Int32} (h : i < 3) (hv : v = 0 ∨ v = 1) : zsz (zR B Y R) (B + 1) (ni i) v = some (zR B Y (zu R 1 (upd (R 1) i v))) := zl_sz (k := 1) (by decide) rfl h (by decide) hv
theorem ra2 {i : Nat} (h : i < 3) : zaz (zR B Y R) (B + 2) (ni i) = some (R 2 i) := zl_az (k := 2) (by decide) rfl h (by decide)
theorem rs2 {i : Nat} {v : Int32} (h : i < 3) (hv : v = 0 ∨ v = 1) : zsz (zR B Y R) (B + 2) (ni i) v = some (zR B Y (zu R 2 (upd (R 2) i v))) := zl_sz (k := 2) (by decide) rfl h (by decide) hv
theorem ra3 {i : Nat} (h : i < 3) : zai (zR B Y R) (B + 3) (ni i) = some (R 3 i) := zl_ai (k := 3) (by decide) rfl h (by decide)
theorem rs3 {i : Nat} {v : Int32} (h : i < 3) : zsi (zR B Y R) (B + 3) (ni i) v = some (zR B Y (zu R 3 (upd (R 3) i v))) := zl_si (k := 3) (by decide) rfl h (by decide)
theorem ra4 {i : Nat} (h : i < 768) : zaz (zR B Y R) (B + 4) (ni i) = some (R 4 i) := zl_az (k := 4) (by decide) rfl h (by decide)
theorem rs4 {i : Nat} {v : Int32} (h : i < 768) (hv : v = 0 ∨ v = 1) : zsz (zR B Y R) (B + 4) (ni i) v = some (zR B Y (zu R 4 (upd (R 4) i v))) := zl_sz (k := 4) (by decide) rfl h (by decide) hv
theorem ra5 {i : Nat} (h : i < 768) : zaz (zR B Y R) (B + 5) (ni i) = some (R 5 i) := zl_az (k := 5) (by decide) rfl h (by decide)
theorem rs5 {i : Nat} {v : Int32} (h : i < 768) (hv : v = 0 ∨ v = 1) : zsz (zR B Y R) (B + 5) (ni i) v = some (zR B Y (zu R 5 (upd (R 5) i v))) := zl_sz (k := 5) (by decide) rfl h (by decide) hv
theorem ra6 {i : Nat} (h : i < 3) : zai (zR B Y R) (B + 6) (ni i) = some (R 6 i) := zl_ai (k := 6) (by decide) rfl h (by decide)
theorem rs6 {i : Nat} {v : Int32} (h : i < 3) : zsi (zR B Y R) (B + 6) (ni i) v = some (zR B Y (zu R 6 (upd (R 6) i v))) := zl_si (k := 6) (by decide) rfl h (by decide)
theorem ra7 {i : Nat} (h : i < 3) : zai (zR B Y R) (B + 7) (ni i) = some (R 7 i) := zl_ai (k := 7) (by decide) rfl h (by decide)
theorem rs7 {i : Nat} {v : Int32} (h : i < 3) : zsi (zR B Y R) (B + 7) (ni i) v = some (zR B Y (zu R 7 (upd (R 7) i v))) := zl_si (k := 7) (by decide) rfl h (by decide)
theorem ra8 {i : Nat} (h : i < 3) : zai (zR B Y R) (B + 8) (ni i) = some (R 8 i) := zl_ai (k := 8) (by decide) rfl h (by decide)
theorem rs8 {i : Nat} {v : Int32} (h : i < 3) : zsi (zR B Y R) (B + 8) (ni i) v = some (zR B Y (zu R 8 (upd (R 8) i v))) := zl_si (k := 8) (by decide) rfl h (by decide)
theorem ra9 {i : Nat} (h : i < 3) : zaz (zR B Y R) (B + 9) (ni i) = some (R 9 i) := zl_az (k := 9) (by decide) rfl h (by decide)
theorem rs9 {i : Nat} {v : Int32} (h : i < 3) (hv : v = 0 ∨ v = 1) : zsz (zR B Y R) (B + 9) (ni i) v = some (zR B Y (zu R 9 (upd (R 9) i v))) := zl_sz (k := 9) (by decide) rfl h (by decide) hv
theorem ra10 {i : Nat} (h : i < 3) : zai (zR B Y R) (B + 10) (ni i) = some (R 10 i) := zl_ai (k := 10) (by decide) rfl h (by decide)
theorem rs10 {i : Nat} {v : Int32} (h : i < 3) : zsi (zR B Y R) (B + 10) (ni i) v = some (zR B Y (zu R 10 (upd (R 10) i v))) := zl_si (k := 10) (by decide) rfl h (by decide)
theorem ra11 {i : Nat} (h : i < 32) : zai (zR B Y R) (B + 11) (ni i) = some (R 11 i) := zl_ai (k := 11) (by decide) rfl h (by decide)
theorem rs11 {i : Nat} {v : Int32} (h : i < 32) : zsi (zR B Y R) (B + 11) (ni i) v = some (zR B Y (zu R 11 (upd (R 11) i v))) := zl_si (k := 11) (by decide) rfl h (by decide)
theorem ra12 {i : Nat} (h : i < 6) : zai (zR B Y R) (B + 12) (ni i) = some (R 12 i) := zl_ai (k := 12) (by decide) rfl h (by decide)
theorem rs12 {i : Nat} {v : Int32} (h : i < 6) : zsi (zR B Y R) (B + 12) (ni i) v = some (zR B Y (zu R 12 (upd (R 12) i v))) := zl_si (k := 12) (by decide) rfl h (by decide)
theorem ra13 {i : Nat} (h : i < 6) : zaz (zR B Y R) (B + 13) (ni i) = some (R 13 i) := zl_az (k := 13) (by decide) rfl h (by decide)
theorem rs13 {i : Nat} {v : Int32} (h : i < 6) (hv : v = 0 ∨ v = 1) : zsz (zR B Y R) (B + 13) (ni i) v = some (zR B Y (zu R 13 (upd (R 13) i v))) := zl_sz (k := 13) (by decide) rfl h (by decide) hv
theorem ra14 {i : Nat} (h : i < 1536) : zaz (zR B Y R) (B + 14) (ni i) = some (R 14 i) := zl_az (k := 14) (by decide) rfl h (by decide)
theorem rs14 {i : Nat} {v : Int32} (h : i < 1536) (hv : v = 0 ∨ v = 1) : zsz (zR B Y R) (B + 14) (ni i) v = some (zR B Y (zu R 14 (upd (R 14) i v))) := zl_sz (k := 14) (by decide) rfl h (by decide) hv
theorem ra15 {i : Nat} (h : i < 6) : zai (zR B Y R) (B + 15) (ni i) = some (R 15 i) := zl_ai (k := 15) (by decide) rfl h (by decide)
theorem rs15 {i : Nat} {v : Int32} (h : i < 6) : zsi (zR B Y R) (B + 15) (ni i) v = some (zR B Y (zu R 15 (upd (R 15) i v))) := zl_si (k := 15) (by decide) rfl h (by decide)
theorem ra16 {i : Nat} (h : i < 256) : zaz (zR B Y R) (B + 16) (ni i) = some (R 16 i) := zl_az (k := 16) (by decide) rfl h (by decide)
theorem rs16 {i : Nat} {v : Int32} (h : i < 256) (hv : v = 0 ∨ v = 1) : zsz (zR B Y R) (B + 16) (ni i) v = some (zR B Y (zu R 16 (upd (R 16) i v))) := zl_sz (k := 16) (by decide) rfl h (by decide) hv
theorem ra17 {i : Nat} (h : i < 96) : zai (zR B Y R) (B + 17) (ni i) = some (R 17 i) := zl_ai (k := 17) (by decide) rfl h (by decide)
theorem rs17 {i : Nat} {v : Int32} (h : i < 96) : zsi (zR B Y R) (B + 17) (ni i) v = some (zR B Y (zu R 17 (upd (R 17) i v))) := zl_si (k := 17) (by decide) rfl h (by decide)
theorem ra18 {i : Nat} (h : i < 96) : zai (zR B Y R) (B + 18) (ni i) = some (R 18 i) := zl_ai (k := 18) (by decide) rfl h (by decide)
theorem rs18 {i : Nat} {v : Int32} (h : i < 96) : zsi (zR B Y R) (B + 18) (ni i) v = some (zR B Y (zu R 18 (upd (R 18) i v))) := zl_si (k := 18) (by decide) rfl h (by decide)
theorem ra19 {i : Nat} (h : i < 96) : zai (zR B Y R) (B + 19) (ni i) = some (R 19 i) := zl_ai (k := 19) (by decide) rfl h (by decide)
theorem rs19 {i : Nat} {v : Int32} (h : i < 96) : zsi (zR B Y R) (B + 19) (ni i) v = some (zR B Y (zu R 19 (upd (R 19) i v))) := zl_si (k := 19) (by decide) rfl h (by decide)
theorem ra20 {i : Nat} (h : i < 96) : zai (zR B Y R) (B + 20) (ni i) = some (R 20 i) := zl_ai (k := 20) (by decide) rfl h (by decide)
theorem rs20 {i : Nat} {v : Int32} (h : i < 96) : zsi (zR B Y R) (B + 20) (ni i) v = some (zR B Y (zu R 20 (upd (R 20) i v))) := zl_si (k := 20) (by decide) rfl h (by decide)
theorem ra21 {i : Nat} (h : i < 96) : zai (zR B Y R) (B + 21) (ni i) = some (R 21 i) := zl_ai (k := 21) (by decide) rfl h (by decide)
theorem rs21 {i : Nat} {v : Int32} (h : i < 96) : zsi (zR B Y R) (B + 21) (ni i) v = some (zR B Y (zu R 21 (upd (R 21) i v))) := zl_si (k := 21) (by decide) rfl h (by decide)
theorem ra22 {i : Nat} (h : i < 96) : zaz (zR B Y R) (B + 22) (ni i) = some (R 22 i) := zl_az (k := 22) (by decide) rfl h (by decide)
theorem rs22 {i : Nat} {v : Int32} (h : i < 96) (hv : v = 0 ∨ v = 1) : zsz (zR B Y R) (B + 22) (ni i) v = some (zR B Y (zu R 22 (upd (R 22) i v))) := zl_sz (k := 22) (by decide) rfl h (by decide) hv
theorem ra23 {i : Nat} (h : i < 96) : zaz (zR B Y R) (B + 23) (ni i) = some (R 23 i) := zl_az (k := 23) (by decide) rfl h (by decide)
theorem rs23 {i : Nat} {v : Int32} (h : i < 96) (hv : v = 0 ∨ v = 1) : zsz (zR B Y R) (B + 23) (ni i) v = some (zR B Y (zu R 23 (upd (R 23) i v))) := zl_sz (k := 23) (by decide) rfl h (by decide) hv
end ZREF
