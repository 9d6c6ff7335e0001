/-! the class: all its cells, by numbers -/
def kL : List Nat := [10, 24, 25, 12, 9, 13, 14, 14, 14, 14, 7, 15, 5, 16, 17, 17, 18, 6, 19, 20, 20, 20, 20, 20, 6, 19, 20, 20, 20, 20, 20, 4, 17, 21, 21, 4, 17, 21, 21, 4, 17, 21, 21, 0, 0, 0, 1, 22, 12, 22, 1, 22, 12, 22, 1, 22, 12, 22, 1, 22, 12, 22, 1, 22, 12, 22, 1, 22, 12, 22, 1, 22, 12, 22, 3, 23, 3, 23, 3, 23, 3, 23, 3, 23, 3, 23, 3, 23, 3, 23, 3, 23, 3, 23, 3, 23, 8, 12, 12, 12, 12, 12, 2, 13]
def kd (p : Nat) : Nat := kL.getD p 99
def fl0 (h : Nat → Nat) (p : Nat) (f : Nat → Int32) (l : Nat → Int64) (r : Nat → Nat) : List Value := [.int (f 0), .int (f 1), .int (f 2), .int (f 3), .int (f 4), .int (f 5), .int (f 6)]
def fl1 (h : Nat → Nat) (p : Nat) (f : Nat → Int32) (l : Nat → Int64) (r : Nat → Nat) : List Value := [.int (f 0), .int (f 1), .int (f 2), .int (f 3), .ref (h (p + 1)), .ref (h (p + 2)), .ref (h (p + 3))]
def fl2 (h : Nat → Nat) (p : Nat) (f : Nat → Int32) (l : Nat → Int64) (r : Nat → Nat) : List Value := [.int (f 0), .int (f 1), .int (f 2), .int (f 3), .ref (h (r 4)), .ref (h 90), .ref (h 44), .ref (h 70), .ref (h 92), .ref (h 94), .ref (h 45), .ref (h 103)]
def fl3 (h : Nat → Nat) (p : Nat) (f : Nat → Int32) (l : Nat → Int64) (r : Nat → Nat) : List Value := [.int (f 0), .int (f 1), .int (f 2), .int (f 3), .long (l 4), .long (l 5), .int (f 6), .int (f 7), .int (f 8), .ref (h (p + 1))]
def fl4 (h : Nat → Nat) (p : Nat) (f : Nat → Int32) (l : Nat → Int64) (r : Nat → Nat) : List Value := [.int (f 0), .int (f 1), .int (f 2), .ref (h (p + 1)), .ref (h (p + 2)), .ref (h (p + 3))]
def fl5 (h : Nat → Nat) (p : Nat) (f : Nat → Int32) (l : Nat → Int64) (r : Nat → Nat) : List Value := [.ref (h 4), .ref (h 13), .ref (h 14), .ref (h 15), .ref (h 16), .ref (h (r 5)), .int (f 6), .int (f 7), .int (f 8), .int (f 9)]
def fl6 (h : Nat → Nat) (p : Nat) (f : Nat → Int32) (l : Nat → Int64) (r : Nat → Nat) : List Value := [.int (f 0), .ref (h (p + 1)), .ref (h (p + 2)), .ref (h (p + 3)), .ref (h (p + 4)), .ref (h (p + 5)), .ref (h (p + 6))]
def fl7 (h : Nat → Nat) (p : Nat) (f : Nat → Int32) (l : Nat → Int64) (r : Nat → Nat) : List Value := [.ref (h 4), .ref (h 11), .int (f 2), .ref (h (r 3))]
def fl8 (h : Nat → Nat) (p : Nat) (f : Nat → Int32) (l : Nat → Int64) (r : Nat → Nat) : List Value := [.ref (h 66), .ref (h 86), .ref (h 88), .int (f 3), .int (f 4), .long (l 5), .int (f 6), .int (f 7), .ref (h 97), .ref (h 98), .ref (h 99), .ref (h 100), .ref (h 101)]
def fl9 (h : Nat → Nat) (p : Nat) (f : Nat → Int32) (l : Nat → Int64) (r : Nat → Nat) : List Value := [.int (f 0), .int (f 1), .int (f 2), .int (f 3), .int (f 4), .int (f 5), .int (f 6), .ref (h 5), .ref (h 6), .ref (h 7), .ref (h 8), .ref (h 9), .int (f 12), .int (f 13), .int (f 14), .int (f 15)]
def fl10 (h : Nat → Nat) (p : Nat) (f : Nat → Int32) (l : Nat → Int64) (r : Nat → Nat) : List Value := [.ref (h 4), .ref (h 10), .ref (h 12), .ref (h (r 3)), .ref (h (r 4)), .ref (h 46), .ref (h 74), .ref (h 43), .ref (h 1), .ref (h 2), .ref (h 3), .int (f 11), .ref (h 84), .ref (h 96), .ref (h 102)]
def cE (h : Nat → Nat) (cI cL cF cM : ClassId) (p : Nat) (f : Nat → Int32) (l : Nat → Int64) (r : Nat → Nat) : va_E := match kd p with
  | 0 => .inr (0, fl0 h p f l r)
  | 1 => .inr (1, fl1 h p f l r)
  | 2 => .inr (2, fl2 h p f l r)
  | 3 => .inr (3, fl3 h p f l r)
  | 4 => .inr (4, fl4 h p f l r)
  | 5 => .inr (5, fl5 h p f l r)
  | 6 => .inr (6, fl6 h p f l r)
  | 7 => .inr (7, fl7 h p f l r)
  | 8 => .inr (8, fl8 h p f l r)
  | 9 => .inr (9, fl9 h p f l r)
  | 10 => .inr (10, fl10 h p f l r)
  | 12 => .inl (cI, 4, .inl f)
  | 13 => .inl (cI, 500, .inl f)
  | 14 => .inl (cI, 501, .inl f)
  | 15 => .inl (cI, 12, .inl f)
  | 16 => .inl (cI, 20, .inl f)
  | 17 => .inl (cI, 64, .inl f)
  | 18 => .inl (cI, 72, .inl f)
  | 19 => .inl (cI, 360, .inl f)
  | 20 => .inl (cI, 30, .inl f)
  | 21 => .inl (cI, 24, .inl f)
  | 22 => .inl (cL, 4, .inr (.inl l))
  | 23 => .inl (cL, 3, .inr (.inl l))
  | 24 => .inl (cF, 4, .inr (.inr (.inr (.inr (fun j => some (h (50 + 4 * j)))))))
  | 25 => .inl (cM, 4, .inr (.inr (.inr (.inr (fun j => some (h (76 + 2 * j)))))))
  | _ => .inl (cI, 0, .inl f)
theorem kd_ge {p : Nat} (h : 104 ≤ p) : kd p = 99 := by
  unfold kd
  rw [List.getD_eq_getElem?_getD, List.getElem?_eq_none (Nat.le_trans (by decide) h)]
  rfl
theorem kd_lt {p c : Nat} (h : kd p = c) (hc : c ≠ 99) : p < 104 := Nat.lt_of_not_le fun q => hc (h.symm.trans (kd_ge q))
theorem ce0 {h : Nat → Nat} {cI cL cF cM : ClassId} {p : Nat} (hk : kd p = 0) (f : Nat → Int32) (l : Nat → Int64) (r : Nat → Nat) : cE h cI cL cF cM p f l r = .inr (0, fl0 h p f l r) := by unfold cE; rw [hk]; rfl
theorem ce1 {h : Nat → Nat} {cI cL cF cM : ClassId} {p : Nat} (hk : kd p = 1) (f : Nat → Int32) (l : Nat → Int64) (r : Nat → Nat) : cE h cI cL cF cM p f l r = .inr (1, fl1 h p f l r) := by unfold cE; rw [hk]; rfl
theorem ce2 {h : Nat → Nat} {cI cL cF cM : ClassId} {p : Nat} (hk : kd p = 2) (f : Nat → Int32) (l : Nat → Int64) (r : Nat → Nat) : cE h cI cL cF cM p f l r = .inr (2, fl2 h p f l r) := by unfold cE; rw [hk]; rfl
theorem ce3 {h : Nat → Nat} {cI cL cF cM : ClassId} {p : Nat} (hk : kd p = 3) (f : Nat → Int32) (l : Nat → Int64) (r : Nat → Nat) : cE h cI cL cF cM p f l r = .inr (3, fl3 h p f l r) := by unfold cE; rw [hk]; rfl
theorem ce4 {h : Nat → Nat} {cI cL cF cM : ClassId} {p : Nat} (hk : kd p = 4) (f : Nat → Int32) (l : Nat → Int64) (r : Nat → Nat) : cE h cI cL cF cM p f l r = .inr (4, fl4 h p f l r) := by unfold cE; rw [hk]; rfl
theorem ce5 {h : Nat → Nat} {cI cL cF cM : ClassId} {p : Nat} (hk : kd p = 5) (f : Nat → Int32) (l : Nat → Int64) (r : Nat → Nat) : cE h cI cL cF cM p f l r = .inr (5, fl5 h p f l r) := by unfold cE; rw [hk]; rfl
theorem ce6 {h : Nat → Nat} {cI cL cF cM : ClassId} {p : Nat} (hk : kd p = 6) (f : Nat → Int32) (l : Nat → Int64) (r : Nat → Nat) : cE h cI cL cF cM p f l r = .inr (6, fl6 h p f l r) := by unfold cE; rw [hk]; rfl
theorem ce7 {h : Nat → Nat} {cI cL cF cM : ClassId} {p : Nat} (hk : kd p = 7) (f : Nat → Int32) (l : Nat → Int64) (r : Nat → Nat) : cE h cI cL cF cM p f l r = .inr (7, fl7 h p f l r) := by unfold cE; rw [hk]; rfl
theorem ce8 {h : Nat → Nat} {cI cL cF cM : ClassId} {p : Nat} (hk : kd p = 8) (f : Nat → Int32) (l : Nat → Int64) (r : Nat → Nat) : cE h cI cL cF cM p f l r = .inr (8, fl8 h p f l r) := by unfold cE; rw [hk]; rfl
theorem ce9 {h : Nat → Nat} {cI cL cF cM : ClassId} {p : Nat} (hk : kd p = 9) (f : Nat → Int32) (l : Nat → Int64) (r : Nat → Nat) : cE h cI cL cF cM p f l r = .inr (9, fl9 h p f l r) := by unfold cE; rw [hk]; rfl
theorem ce10 {h : Nat → Nat} {cI cL cF cM : ClassId} {p : Nat} (hk : kd p = 10) (f : Nat → Int32) (l : Nat → Int64) (r : Nat → Nat) : cE h cI cL cF cM p f l r = .inr (10, fl10 h p f l r) := by unfold cE; rw [hk]; rfl
theorem ce12 {h : Nat → Nat} {cI cL cF cM : ClassId} {p : Nat} (hk : kd p = 12) (f : Nat → Int32) (l : Nat → Int64) (r : Nat → Nat) : cE h cI cL cF cM p f l r = .inl (cI, 4, .inl f) := by unfold cE; rw [hk]; rfl
theorem ce13 {h : Nat → Nat} {cI cL cF cM : ClassId} {p : Nat} (hk : kd p = 13) (f : Nat → Int32) (l : Nat → Int64) (r : Nat → Nat) : cE h cI cL cF cM p f l r = .inl (cI, 500, .inl f) := by unfold cE; rw [hk]; rfl
theorem ce14 {h : Nat → Nat} {cI cL cF cM : ClassId} {p : Nat} (hk : kd p = 14) (f : Nat → Int32) (l : Nat → Int64) (r : Nat → Nat) : cE h cI cL cF cM p f l r = .inl (cI, 501, .inl f) := by unfold cE; rw [hk]; rfl
theorem ce15 {h : Nat → Nat} {cI cL cF cM : ClassId} {p : Nat} (hk : kd p = 15) (f : Nat → Int32) (l : Nat → Int64) (r : Nat → Nat) : cE h cI cL cF cM p f l r = .inl (cI, 12, .inl f) := by unfold cE; rw [hk]; rfl
theorem ce16 {h : Nat → Nat} {cI cL cF cM : ClassId} {p : Nat} (hk : kd p = 16) (f : Nat → Int32) (l : Nat → Int64) (r : Nat → Nat) : cE h cI cL cF cM p f l r = .inl (cI, 20, .inl f) := by unfold cE; rw [hk]; rfl
theorem ce17 {h : Nat → Nat} {cI cL cF cM : ClassId} {p : Nat} (hk : kd p = 17) (f : Nat → Int32) (l : Nat → Int64) (r : Nat → Nat) : cE h cI cL cF cM p f l r = .inl (cI, 64, .inl f) := by unfold cE; rw [hk]; rfl
theorem ce18 {h : Nat → Nat} {cI cL cF cM : ClassId} {p : Nat} (hk : kd p = 18) (f : Nat → Int32) (l : Nat → Int64) (r : Nat → Nat) : cE h cI cL cF cM p f l r = .inl (cI, 72, .inl f) := by unfold cE; rw [hk]; rfl
theorem ce19 {h : Nat → Nat} {cI cL cF cM : ClassId} {p : Nat} (hk : kd p = 19) (f : Nat → Int32) (l : Nat → Int64) (r : Nat → Nat) : cE h cI cL cF cM p f l r = .inl (cI, 360, .inl f) := by unfold cE; rw [hk]; rfl
theorem ce20 {h : Nat → Nat} {cI cL cF cM : ClassId} {p : Nat} (hk : kd p = 20) (f : Nat → Int32) (l : Nat → Int64) (r : Nat → Nat) : cE h cI cL cF cM p f l r = .inl (cI, 30, .inl f) := by unfold cE; rw [hk]; rfl
theorem ce21 {h : Nat → Nat} {cI cL cF cM : ClassId} {p : Nat} (hk : kd p = 21) (f : Nat → Int32) (l : Nat → Int64) (r : Nat → Nat) : cE h cI cL cF cM p f l r = .inl (cI, 24, .inl f) := by unfold cE; rw [hk]; rfl
theorem ce22 {h : Nat → Nat} {cI cL cF cM : ClassId} {p : Nat} (hk : kd p = 22) (f : Nat → Int32) (l : Nat → Int64) (r : Nat → Nat) : cE h cI cL cF cM p f l r = .inl (cL, 4, .inr (.inl l)) := by unfold cE; rw [hk]; rfl
theorem ce23 {h : Nat → Nat} {cI cL cF cM : ClassId} {p : Nat} (hk : kd p = 23) (f : Nat → Int32) (l : Nat → Int64) (r : Nat → Nat) : cE h cI cL cF cM p f l r = .inl (cL, 3, .inr (.inl l)) := by unfold cE; rw [hk]; rfl
theorem ce24 {h : Nat → Nat} {cI cL cF cM : ClassId} {p : Nat} (hk : kd p = 24) (f : Nat → Int32) (l : Nat → Int64) (r : Nat → Nat) : cE h cI cL cF cM p f l r = .inl (cF, 4, .inr (.inr (.inr (.inr (fun j => some (h (50 + 4 * j))))))) := by unfold cE; rw [hk]; rfl
theorem ce25 {h : Nat → Nat} {cI cL cF cM : ClassId} {p : Nat} (hk : kd p = 25) (f : Nat → Int32) (l : Nat → Int64) (r : Nat → Nat) : cE h cI cL cF cM p f l r = .inl (cM, 4, .inr (.inr (.inr (.inr (fun j => some (h (76 + 2 * j))))))) := by unfold cE; rw [hk]; rfl
theorem kp0 : kd 0 = 10 := by decide
theorem kp1 : kd 1 = 24 := by decide
theorem kp2 : kd 2 = 25 := by decide
theorem kp3 : kd 3 = 12 := by decide
theorem kp4 : kd 4 = 9 := by decide
theorem kp5 : kd 5 = 13 := by decide
theorem kp6 : kd 6 = 14 := by decide
theorem kp7 : kd 7 = 14 := by decide
theorem kp8 : kd 8 = 14 := by decide
theorem kp9 : kd 9 = 14 := by decide
theorem kp10 : kd 10 = 7 := by decide
theorem kp11 : kd 11 = 15 := by decide
theorem kp12 : kd 12 = 5 := by decide
theorem kp13 : kd 13 = 16 := by decide
theorem kp14 : kd 14 = 17 := by decide
theorem kp15 : kd 15 = 17 := by decide
theorem kp16 : kd 16 = 18 := by decide
theorem kp17 : kd 17 = 6 := by decide
theorem kp18 : kd 18 = 19 := by decide
theorem kp19 : kd 19 = 20 := by decide
theorem kp20 : kd 20 = 20 := by decide
theorem kp21 : kd 21 = 20 := by decide
theorem kp22 : kd 22 = 20 := by decide
theorem kp23 : kd 23 = 20 := by decide
theorem kp24 : kd 24 = 6 := by decide
theorem kp25 : kd 25 = 19 := by decide
theorem kp26 : kd 26 = 20 := by decide
theorem kp27 : kd 27 = 20 := by decide
theorem kp28 : kd 28 = 20 := by decide
theorem kp29 : kd 29 = 20 := by decide
theorem kp30 : kd 30 = 20 := by decide
theorem kp31 : kd 31 = 4 := by decide
theorem kp32 : kd 32 = 17 := by decide
theorem kp33 : kd 33 = 21 := by decide
theorem kp34 : kd 34 = 21 := by decide
theorem kp35 : kd 35 = 4 := by decide
theorem kp36 : kd 36 = 17 := by decide
theorem kp37 : kd 37 = 21 := by decide
theorem kp38 : kd 38 = 21 := by decide
theorem kp39 : kd 39 = 4 := by decide
theorem kp40 : kd 40 = 17 := by decide
theorem kp41 : kd 41 = 21 := by decide
theorem kp42 : kd 42 = 21 := by decide
theorem kp43 : kd 43 = 0 := by decide
theorem kp44 : kd 44 = 0 := by decide
theorem kp45 : kd 45 = 0 := by decide
theorem kp46 : kd 46 = 1 := by decide
theorem kp47 : kd 47 = 22 := by decide
theorem kp48 : kd 48 = 12 := by decide
theorem kp49 : kd 49 = 22 := by decide
theorem kp50 : kd 50 = 1 := by decide
theorem kp51 : kd 51 = 22 := by decide
theorem kp52 : kd 52 = 12 := by decide
theorem kp53 : kd 53 = 22 := by decide
theorem kp54 : kd 54 = 1 := by decide
theorem kp55 : kd 55 = 22 := by decide
theorem kp56 : kd 56 = 12 := by decide
theorem kp57 : kd 57 = 22 := by decide
theorem kp58 : kd 58 = 1 := by decide
theorem kp59 : kd 59 = 22 := by decide
theorem kp60 : kd 60 = 12 := by decide
theorem kp61 : kd 61 = 22 := by decide
theorem kp62 : kd 62 = 1 := by decide
theorem kp63 : kd 63 = 22 := by decide
theorem kp64 : kd 64 = 12 := by decide
theorem kp65 : kd 65 = 22 := by decide
theorem kp66 : kd 66 = 1 := by decide
theorem kp67 : kd 67 = 22 := by decide
theorem kp68 : kd 68 = 12 := by decide
theorem kp69 : kd 69 = 22 := by decide
theorem kp70 : kd 70 = 1 := by decide
theorem kp71 : kd 71 = 22 := by decide
theorem kp72 : kd 72 = 12 := by decide
theorem kp73 : kd 73 = 22 := by decide
theorem kp74 : kd 74 = 3 := by decide
theorem kp75 : kd 75 = 23 := by decide
theorem kp76 : kd 76 = 3 := by decide
theorem kp77 : kd 77 = 23 := by decide
theorem kp78 : kd 78 = 3 := by decide
theorem kp79 : kd 79 = 23 := by decide
theorem kp80 : kd 80 = 3 := by decide
theorem kp81 : kd 81 = 23 := by decide
theorem kp82 : kd 82 = 3 := by decide
theorem kp83 : kd 83 = 23 := by decide
theorem kp84 : kd 84 = 3 := by decide
theorem kp85 : kd 85 = 23 := by decide
theorem kp86 : kd 86 = 3 := by decide
theorem kp87 : kd 87 = 23 := by decide
theorem kp88 : kd 88 = 3 := by decide
theorem kp89 : kd 89 = 23 := by decide
theorem kp90 : kd 90 = 3 := by decide
theorem kp91 : kd 91 = 23 := by decide
theorem kp92 : kd 92 = 3 := by decide
theorem kp93 : kd 93 = 23 := by decide
theorem kp94 : kd 94 = 3 := by decide
theorem kp95 : kd 95 = 23 := by decide
theorem kp96 : kd 96 = 8 := by decide
theorem kp97 : kd 97 = 12 := by decide
theorem kp98 : kd 98 = 12 := by decide
theorem kp99 : kd 99 = 12 := by decide
theorem kp100 : kd 100 = 12 := by decide
theorem kp101 : kd 101 = 12 := by decide
theorem kp102 : kd 102 = 2 := by decide
theorem kp103 : kd 103 = 13 := by decide
theorem kd1_1x : ∀ p, p < 104 → kd p = 1 → kd (p + 1) = 22 := by decide +kernel
theorem kd1_1 {p : Nat} (h : kd p = 1) : kd (p + 1) = 22 := kd1_1x p (kd_lt h (by decide)) h
theorem kd1_2x : ∀ p, p < 104 → kd p = 1 → kd (p + 2) = 12 := by decide +kernel
theorem kd1_2 {p : Nat} (h : kd p = 1) : kd (p + 2) = 12 := kd1_2x p (kd_lt h (by decide)) h
theorem kd1_3x : ∀ p, p < 104 → kd p = 1 → kd (p + 3) = 22 := by decide +kernel
theorem kd1_3 {p : Nat} (h : kd p = 1) : kd (p + 3) = 22 := kd1_3x p (kd_lt h (by decide)) h
theorem kd3_1x : ∀ p, p < 104 → kd p = 3 → kd (p + 1) = 23 := by decide +kernel
theorem kd3_1 {p : Nat} (h : kd p = 3) : kd (p + 1) = 23 := kd3_1x p (kd_lt h (by decide)) h
theorem kd4_1x : ∀ p, p < 104 → kd p = 4 → kd (p + 1) = 17 := by decide +kernel
theorem kd4_1 {p : Nat} (h : kd p = 4) : kd (p + 1) = 17 := kd4_1x p (kd_lt h (by decide)) h
theorem kd4_2x : ∀ p, p < 104 → kd p = 4 → kd (p + 2) = 21 := by decide +kernel
theorem kd4_2 {p : Nat} (h : kd p = 4) : kd (p + 2) = 21 := kd4_2x p (kd_lt h (by decide)) h
theorem kd4_3x : ∀ p, p < 104 → kd p = 4 → kd (p + 3) = 21 := by decide +kernel
theorem kd4_3 {p : Nat} (h : kd p = 4) : kd (p + 3) = 21 := kd4_3x p (kd_lt h (by decide)) h
theorem kd6_1x : ∀ p, p < 104 → kd p = 6 → kd (p + 1) = 19 := by decide +kernel
theorem kd6_1 {p : Nat} (h : kd p = 6) : kd (p + 1) = 19 := kd6_1x p (kd_lt h (by decide)) h
theorem kd6_2x : ∀ p, p < 104 → kd p = 6 → kd (p + 2) = 20 := by decide +kernel
theorem kd6_2 {p : Nat} (h : kd p = 6) : kd (p + 2) = 20 := kd6_2x p (kd_lt h (by decide)) h
theorem kd6_3x : ∀ p, p < 104 → kd p = 6 → kd (p + 3) = 20 := by decide +kernel
theorem kd6_3 {p : Nat} (h : kd p = 6) : kd (p + 3) = 20 := kd6_3x p (kd_lt h (by decide)) h
theorem kd6_4x : ∀ p, p < 104 → kd p = 6 → kd (p + 4) = 20 := by decide +kernel
theorem kd6_4 {p : Nat} (h : kd p = 6) : kd (p + 4) = 20 := kd6_4x p (kd_lt h (by decide)) h
theorem kd6_5x : ∀ p, p < 104 → kd p = 6 → kd (p + 5) = 20 := by decide +kernel
theorem kd6_5 {p : Nat} (h : kd p = 6) : kd (p + 5) = 20 := kd6_5x p (kd_lt h (by decide)) h
theorem kd6_6x : ∀ p, p < 104 → kd p = 6 → kd (p + 6) = 20 := by decide +kernel
theorem kd6_6 {p : Nat} (h : kd p = 6) : kd (p + 6) = 20 := kd6_6x p (kd_lt h (by decide)) h
theorem kdF_x : ∀ j, j < 4 → kd (50 + 4 * j) = 1 := by decide +kernel
theorem kdM_x : ∀ j, j < 4 → kd (76 + 2 * j) = 3 := by decide +kernel
theorem vp_lt {i : Int32} {n : Nat} (h : vp_in i n) : i.toNatClampNeg < n := Nat.not_le.mp fun q => h (Or.inr q)
theorem kdF {i : Int32} (h : vp_in i 4) : kd (50 + 4 * ix i) = 1 := kdF_x _ (vp_lt h)
theorem kdM {i : Int32} (h : vp_in i 4) : kd (76 + 2 * ix i) = 3 := kdM_x _ (vp_lt h)
def ptN (g : Nat → Nat → Nat) (k i : Nat) (v : Nat) : Nat → Nat → Nat := fun q j => if q = k then (if j = i then v else g q j) else g q j
abbrev cS : Type := (Nat → Nat → Int32) × (Nat → Nat → Int64) × (Nat → Nat → Nat)
def cW (h : Nat → Nat) (cI cL cF cM : ClassId) (F : Nat → Nat → Int32) (L : Nat → Nat → Int64) (r : Nat → Nat → Nat) : va_W := (List.range 104).map (fun p => (h p, cE h cI cL cF cM p (F p) (L p) (r p)))
abbrev cWu (h : Nat → Nat) (cI cL cF cM : ClassId) (u : cS) : va_W := cW h cI cL cF cM u.1 u.2.1 u.2.2
abbrev cT (cI cL cF cM : ClassId) : List (ClassId × FieldType) := [(cI, .int), (cL, .long), (cF, .object RX1), (cM, .object RX3)]
theorem pt_ne {g : Nat → Nat → Int32} {k i q : Nat} {v : Int32} (h : q ≠ k) : pt g k i v q = g q := by unfold pt va_up; exact if_neg h
theorem pt_at {g : Nat → Nat → Int32} {k i : Nat} {v : Int32} : pt g k i v k = upd (g k) i v := by unfold pt va_up; exact if_pos rfl
theorem ptL_ne {g : Nat → Nat → Int64} {k i q : Nat} {v : Int64} (h : q ≠ k) : ptL g k i v q = g q := by unfold ptL va_up; exact if_neg h
theorem ptL_at {g : Nat → Nat → Int64} {k i : Nat} {v : Int64} : ptL g k i v k = vp_updL (g k) i v := by unfold ptL va_up; exact if_pos rfl
theorem ptN_ne {g : Nat → Nat → Nat} {k i q : Nat} {v : Nat} (h : q ≠ k) : ptN g k i v q = g q := by funext j; unfold ptN; exact if_neg h
theorem ptN_at {g : Nat → Nat → Nat} {k i : Nat} {v : Nat} : ptN g k i v k = fun j => if j = i then v else g k j := by funext j; unfold ptN; exact if_pos rfl
section CW1
variable {h : Nat → Nat} {cI cL cF cM : ClassId} {F F' : Nat → Nat → Int32} {L L' : Nat → Nat → Int64} {r r' : Nat → Nat → Nat} {p : Nat}
theorem cW_len : (cW h cI cL cF cM F L r).length = 104 := by simp [cW]
theorem cW_get (hp : p < 104) : (cW h cI cL cF cM F L r)[p]? = some (h p, cE h cI cL cF cM p (F p) (L p) (r p)) := by
  simp [cW, hp]
theorem cW_set {E : va_E} (hp : p < 104) (hE : cE h cI cL cF cM p (F' p) (L' p) (r' p) = E) (h1 : ∀ q, q ≠ p → F' q = F q) (h2 : ∀ q, q ≠ p → L' q = L q) (h3 : ∀ q, q ≠ p → r' q = r q) : (cW h cI cL cF cM F L r).set p (h p, E) = cW h cI cL cF cM F' L' r' := by
  refine List.ext_getElem? fun q => ?_
  by_cases hq : q = p
  · subst hq
    rw [cW_get hp, hE, List.getElem?_set_self (by rw [cW_len]; exact hp)]
  · rw [List.getElem?_set_ne (fun e => hq e.symm)]
    by_cases hl : q < 104
    · rw [cW_get hl, cW_get hl, h1 q hq, h2 q hq, h3 q hq]
    · rw [List.getElem?_eq_none (by rw [cW_len]; exact Nat.le_of_not_lt hl), List.getElem?_eq_none (by rw [cW_len]; exact Nat.le_of_not_lt hl)]
theorem rng_map {α : Type} (ws : List α) : (List.range ws.length).map (fun i => ws[i]?) = ws.map some := by
  refine List.ext_getElem? fun q => ?_
  by_cases hq : q < ws.length
  · simp [hq]
  · rw [List.getElem?_eq_none (by simp; omega), List.getElem?_eq_none (by simp; omega)]
theorem cW_rng : (List.range 104).map (fun i => (cW h cI cL cF cM F L r)[i]?) = (cW h cI cL cF cM F L r).map some := by
  have h := rng_map (cW h cI cL cF cM F L r)
  rw [cW_len] at h
  exact h
end CW1
def jmin (x y : Int32) : Int32 := if y < x then y else x
section CR
variable {p : Program} {l : Launch} {e : Env} {R : Room} {s : State} {m : MethodId} {args : Array Value} {below : List Frame} {meth : Method} {c : Code} {H : Heap} {locs : List Loc} {cells slots : Nat} {Q : State → Prop}
variable {cc : ByteArray} {pc : Nat} {ls : Array Slot} {rest : List Value} {D : va_G} {A : Nat → Prop} {nL : Nat} {Ts : List Cond} {own : String} {h : Nat → Nat} {cI cL cF cM : ClassId} {F : Nat → Nat → Int32} {L : Nat → Nat → Int64} {r : Nat → Nat → Nat} {index n a : Nat}
theorem c_get (C : CallFix p m c cc nL s args Ts own) (hw : Wd D A s (cT cI cL cF cM) (cW h cI cL cF cM F L r) H locs) {Cn : String} {T : u_T} {N ci : Nat} (hin : ∀ w ∈ u_ws Cn T N, w ∈ Ts) (ha : a < 104) {fl : (Nat → Int32) → (Nat → Int64) → (Nat → Nat) → List Value} (hce : ∀ f l r, cE h cI cL cF cM a f l r = .inr (ci, fl f l r)) (hc : vwCl[ci]? = some (Cn, T, N)) (k : Nat) (hk : k < N) (hlink : Cond.fieldLink own index (T k).1 (T k).2.1 (T k).2.2.1 ∈ Ts) {v : Value} (hv : (fl (F a) (L a) (r a))[k]? = some v) (hdg : decode cc pc = .ok (.getfield index, 3))
    (kk : W p l e R s m args below meth c H locs cells slots Q (F0 m (pc + 3) ls (v :: rest))) : W p l e R s m args below meth c H locs cells slots Q (F0 m pc ls (.ref (h a) :: rest)) :=
  wd_get (fs := fl (F a) (L a) (r a)) C hw hin a (by rw [cW_get ha, hce]) hc k hk hlink hv hdg kk
theorem c_puti (C : CallFix p m c cc nL s args Ts own) (hw : Wd D A s (cT cI cL cF cM) (cW h cI cL cF cM F L r) H locs) {Cn : String} {T : u_T} {N ci : Nat} (hin : ∀ w ∈ u_ws Cn T N, w ∈ Ts) (ty0 : Nat → FieldType) (hty : ∀ k, k < N → parseFieldDescriptor (T k).2.2.1 = some (ty0 k)) (hnm : ∀ a, a < N → ∀ b, b < N → a ≠ b → (T a).2.1 ≠ (T b).2.1) (ha : a < 104) {fl : (Nat → Int32) → (Nat → Int64) → (Nat → Nat) → List Value} (hce : ∀ f l r, cE h cI cL cF cM a f l r = .inr (ci, fl f l r)) (hc : vwCl[ci]? = some (Cn, T, N)) (k : Nat) (hk : k < N) (hlink : Cond.fieldLink own index (T k).1 (T k).2.1 (T k).2.2.1 ∈ Ts) (hfin : (T k).2.2.2 = false) {ty : FieldType} {v : Int32} (hd : parseFieldDescriptor (T k).2.2.1 = some ty) (hn : narrow ty (.int v) = .int v) (hfit : fits ty (.int v) = true) (hl : k < (fl (F a) (L a) (r a)).length) (hset : (fl (F a) (L a) (r a)).set k (.int v) = fl (upd (F a) k v) (L a) (r a)) (hdg : decode cc pc = .ok (.putfield index, 3))
    (kk : ∀ (H1 : Heap) (locs1 : List Loc), Wd D A s (cT cI cL cF cM) (cW h cI cL cF cM (pt F a k v) L r) H1 locs1 → W p l e R s m args below meth c H1 locs1 cells slots Q (F0 m (pc + 3) ls rest)) : W p l e R s m args below meth c H locs cells slots Q (F0 m pc ls (.int v :: .ref (h a) :: rest)) :=
  wd_put (fs := fl (F a) (L a) (r a)) C hw hin ty0 hty hnm a (by rw [cW_get ha, hce]) hc k hk hlink hfin hd hn hfit hl (cW_set ha (by rw [hce, pt_at, hset]) (fun q hq => pt_ne hq) (fun _ _ => rfl) (fun _ _ => rfl)) hdg kk
theorem c_putl (C : CallFix p m c cc nL s args Ts own) (hw : Wd D A s (cT cI cL cF cM) (cW h cI cL cF cM F L r) H locs) {Cn : String} {T : u_T} {N ci : Nat} (hin : ∀ w ∈ u_ws Cn T N, w ∈ Ts) (ty0 : Nat → FieldType) (hty : ∀ k, k < N → parseFieldDescriptor (T k).2.2.1 = some (ty0 k)) (hnm : ∀ a, a < N → ∀ b, b < N → a ≠ b → (T a).2.1 ≠ (T b).2.1) (ha : a < 104) {fl : (Nat → Int32) → (Nat → Int64) → (Nat → Nat) → List Value} (hce : ∀ f l r, cE h cI cL cF cM a f l r = .inr (ci, fl f l r)) (hc : vwCl[ci]? = some (Cn, T, N)) (k : Nat) (hk : k < N) (hlink : Cond.fieldLink own index (T k).1 (T k).2.1 (T k).2.2.1 ∈ Ts) (hfin : (T k).2.2.2 = false) {v : Int64} (hd : parseFieldDescriptor (T k).2.2.1 = some .long) (hl : k < (fl (F a) (L a) (r a)).length) (hset : (fl (F a) (L a) (r a)).set k (.long v) = fl (F a) (vp_updL (L a) k v) (r a)) (hdg : decode cc pc = .ok (.putfield index, 3))
    (kk : ∀ (H1 : Heap) (locs1 : List Loc), Wd D A s (cT cI cL cF cM) (cW h cI cL cF cM F (ptL L a k v) r) H1 locs1 → W p l e R s m args below meth c H1 locs1 cells slots Q (F0 m (pc + 3) ls rest)) : W p l e R s m args below meth c H locs cells slots Q (F0 m pc ls (.long v :: .ref (h a) :: rest)) :=
  wd_put (fs := fl (F a) (L a) (r a)) (v := .long v) C hw hin ty0 hty hnm a (by rw [cW_get ha, hce]) hc k hk hlink hfin hd rfl rfl hl (cW_set ha (by rw [hce, ptL_at, hset]) (fun _ _ => rfl) (fun q hq => ptL_ne hq) (fun _ _ => rfl)) hdg kk
theorem c_putr (C : CallFix p m c cc nL s args Ts own) (hw : Wd D A s (cT cI cL cF cM) (cW h cI cL cF cM F L r) H locs) {Cn : String} {T : u_T} {N ci : Nat} (hin : ∀ w ∈ u_ws Cn T N, w ∈ Ts) (ty0 : Nat → FieldType) (hty : ∀ k, k < N → parseFieldDescriptor (T k).2.2.1 = some (ty0 k)) (hnm : ∀ a, a < N → ∀ b, b < N → a ≠ b → (T a).2.1 ≠ (T b).2.1) (ha : a < 104) {fl : (Nat → Int32) → (Nat → Int64) → (Nat → Nat) → List Value} (hce : ∀ f l r, cE h cI cL cF cM a f l r = .inr (ci, fl f l r)) (hc : vwCl[ci]? = some (Cn, T, N)) (k : Nat) (hk : k < N) (hlink : Cond.fieldLink own index (T k).1 (T k).2.1 (T k).2.2.1 ∈ Ts) (hfin : (T k).2.2.2 = false) {ty : FieldType} {v : Nat} (hd : parseFieldDescriptor (T k).2.2.1 = some ty) (hn : narrow ty (.ref (h v)) = .ref (h v)) (hfit : fits ty (.ref (h v)) = true) (hl : k < (fl (F a) (L a) (r a)).length) (hset : (fl (F a) (L a) (r a)).set k (.ref (h v)) = fl (F a) (L a) (fun j => if j = k then v else r a j)) (hdg : decode cc pc = .ok (.putfield index, 3))
    (kk : ∀ (H1 : Heap) (locs1 : List Loc), Wd D A s (cT cI cL cF cM) (cW h cI cL cF cM F L (ptN r a k v)) H1 locs1 → W p l e R s m args below meth c H1 locs1 cells slots Q (F0 m (pc + 3) ls rest)) : W p l e R s m args below meth c H locs cells slots Q (F0 m pc ls (.ref (h v) :: .ref (h a) :: rest)) :=
  wd_put (fs := fl (F a) (L a) (r a)) (v := .ref (h v)) C hw hin ty0 hty hnm a (by rw [cW_get ha, hce]) hc k hk hlink hfin hd hn hfit hl (cW_set ha (by rw [hce, ptN_at, hset]) (fun _ _ => rfl) (fun _ _ => rfl) (fun q hq => ptN_ne hq)) hdg kk
theorem c_ial (C : CallFix p m c cc nL s args Ts own) (hw : Wd D A s (cT cI cL cF cM) (cW h cI cL cF cM F L r) H locs) (ha : a < 104) (hce : ∀ f l r, cE h cI cL cF cM a f l r = .inl (cI, n, .inl f)) {i : Int32} (hin : vp_in i n) (hdg : decode cc pc = .ok (.iaload, 1))
    (kk : W p l e R s m args below meth c H locs cells slots Q (F0 m (pc + 1) ls (.int (F a (ix i)) :: rest))) : W p l e R s m args below meth c H locs cells slots Q (F0 m pc ls (.int i :: .ref (h a) :: rest)) :=
  wd_ial C hw a 0 (by rw [cW_get ha, hce]) rfl hin hdg kk
theorem c_lal (C : CallFix p m c cc nL s args Ts own) (hw : Wd D A s (cT cI cL cF cM) (cW h cI cL cF cM F L r) H locs) (ha : a < 104) (hce : ∀ f l r, cE h cI cL cF cM a f l r = .inl (cL, n, .inr (.inl l))) {i : Int32} (hin : vp_in i n) (hdg : decode cc pc = .ok (.laload, 1))
    (kk : W p l e R s m args below meth c H locs cells slots Q (F0 m (pc + 1) ls (.long (L a (ix i)) :: rest))) : W p l e R s m args below meth c H locs cells slots Q (F0 m pc ls (.int i :: .ref (h a) :: rest)) :=
  wd_lal C hw a 1 (by rw [cW_get ha, hce]) rfl hin hdg kk
theorem c_aal {t0 : Nat} {cA : ClassId} {Cn : String} {f0 : Nat → Nat} (C : CallFix p m c cc nL s args Ts own) (hw : Wd D A s (cT cI cL cF cM) (cW h cI cL cF cM F L r) H locs) (ha : a < 104) (hce : ∀ f l r, cE h cI cL cF cM a f l r = .inl (cA, n, .inr (.inr (.inr (.inr (fun j => some (f0 j))))))) (ht : (cT cI cL cF cM)[t0]? = some (cA, .object Cn)) {i : Int32} (hin : vp_in i n) (hdg : decode cc pc = .ok (.aaload, 1))
    (kk : W p l e R s m args below meth c H locs cells slots Q (F0 m (pc + 1) ls (.ref (f0 (ix i)) :: rest))) : W p l e R s m args below meth c H locs cells slots Q (F0 m pc ls (.int i :: .ref (h a) :: rest)) :=
  va_aldq (f := fun j => some (f0 j)) C.1 C.2.1 hw.1 hw.2.1 a t0 (by rw [cW_get ha, hce]) ht hin hdg kk
theorem c_ias (C : CallFix p m c cc nL s args Ts own) (hw : Wd D A s (cT cI cL cF cM) (cW h cI cL cF cM F L r) H locs) (ha : a < 104) (hce : ∀ f l r, cE h cI cL cF cM a f l r = .inl (cI, n, .inl f)) {i x : Int32} (hin : vp_in i n) (hdg : decode cc pc = .ok (.iastore, 1))
    (kk : ∀ (H1 : Heap) (locs1 : List Loc), Wd D A s (cT cI cL cF cM) (cW h cI cL cF cM (pt F a (ix i) x) L r) H1 locs1 → W p l e R s m args below meth c H1 locs1 cells slots Q (F0 m (pc + 1) ls rest)) : W p l e R s m args below meth c H locs cells slots Q (F0 m pc ls (.int x :: .int i :: .ref (h a) :: rest)) :=
  wd_ias C hw a 0 (by rw [cW_get ha, hce]) rfl hin (cW_set ha (by rw [hce, pt_at]) (fun q hq => pt_ne hq) (fun _ _ => rfl) (fun _ _ => rfl)) hdg kk
theorem c_las (C : CallFix p m c cc nL s args Ts own) (hw : Wd D A s (cT cI cL cF cM) (cW h cI cL cF cM F L r) H locs) (ha : a < 104) (hce : ∀ f l r, cE h cI cL cF cM a f l r = .inl (cL, n, .inr (.inl l))) {i : Int32} {x : Int64} (hin : vp_in i n) (hdg : decode cc pc = .ok (.lastore, 1))
    (kk : ∀ (H1 : Heap) (locs1 : List Loc), Wd D A s (cT cI cL cF cM) (cW h cI cL cF cM F (ptL L a (ix i) x) r) H1 locs1 → W p l e R s m args below meth c H1 locs1 cells slots Q (F0 m (pc + 1) ls rest)) : W p l e R s m args below meth c H locs cells slots Q (F0 m pc ls (.long x :: .int i :: .ref (h a) :: rest)) :=
  wd_las C hw a 1 (by rw [cW_get ha, hce]) rfl hin (cW_set ha (by rw [hce, ptL_at]) (fun _ _ => rfl) (fun q hq => ptL_ne hq) (fun _ _ => rfl)) hdg kk
theorem c_len (C : CallFix p m c cc nL s args Ts own) (hw : Wd D A s (cT cI cL cF cM) (cW h cI cL cF cM F L r) H locs) (ha : a < 104) (hce : ∀ f l r, cE h cI cL cF cM a f l r = .inl (cI, n, .inl f)) {v : Int32} (hv : Int32.ofNat n = v) (hdg : decode cc pc = .ok (.arraylength, 1))
    (kk : W p l e R s m args below meth c H locs cells slots Q (F0 m (pc + 1) ls (.int v :: rest))) : W p l e R s m args below meth c H locs cells slots Q (F0 m pc ls (.ref (h a) :: rest)) :=
  va_alen C.1 C.2.1 hw.1 hw.2.1 a 0 (by rw [cW_get ha, hce]) rfl hv hdg kk
theorem c_min (C : CallFix p m c cc nL s args Ts own) (hlink : Cond.methodLink own index Lib.Math.min.name ∈ Ts) (hstat : Cond.static Lib.Math.min.name ∈ Ts) (hini : Cond.initialized "java/lang/Math" ∈ Ts) (hcode : Cond.code Lib.Math.min.name Lib.Math.min.code 2 (some .int) ∈ Ts) (hsize : ls.size = nL) (hframes : 1 ≤ R.frames) (hlocals : (rest.map fun v => v.category).sum + 13 ≤ R.locals) (hf : cells ≤ R.cells ∧ slots ≤ R.slots) {x y : Int32} (hdg : decode cc pc = .ok (.invokestatic index, 3))
    (kk : W p l e R s m args below meth c H locs cells slots Q (F0 m (pc + 3) ls (.int (jmin x y) :: rest))) : W p l e R s m args below meth c H locs cells slots Q (F0 m pc ls (.int y :: .int x :: rest)) :=
  va_mmin C.1 C.2.1 (C.2.2.1.trans hsize.symm) C.2.2.2.1 (C.2.2.2.2 _ hlink) (C.2.2.2.2 _ hstat) (C.2.2.2.2 _ hini) (C.2.2.2.2 _ hcode) hframes hlocals hf.1 hf.2 hdg kk
variable {y : MethodName} {wsY : List Cond} {rm : Room} {As : List Value} {maxL : Nat} {bytes : ByteArray} {ret : Option FieldType} {Cn : String} {T : u_T} {N ci : Nat} {fl : (Nat → Int32) → (Nat → Int64) → (Nat → Nat) → List Value}

theorem c_Vi {K : Int32 → cS → Prop} (C : CallFix p m c cc nL s args Ts own) (hw : Wd D A s (cT cI cL cF cM) (cW h cI cL cF cM F L r) H locs) (hM : Ci l y wsY rm (.ref (h a) :: As) D (cT cI cL cF cM) (cWu h cI cL cF cM) (F, L, r) K) (cw : CallW R s args own Cn index y bytes maxL ret wsY rm 0 0 n) (hrc : vwCl[ci]? = some (Cn, T, N)) (ha : a < 104) (hce : ∀ f l r, cE h cI cL cF cM a f l r = .inr (ci, fl f l r)) (hlen : As.length = n) (hsize : ls.size = nL) (hroom : (rest.map fun v => v.category).sum ≤ 8) (hdg : decode cc pc = .ok (.invokevirtual index, 3)) (hf : cells ≤ R.cells ∧ slots ≤ R.slots)
    (kk : ∀ (r1 : Int32) (u : cS) (H1 : Heap) (locs1 : List Loc), K r1 u → Wd D A s (cT cI cL cF cM) (cW h cI cL cF cM u.1 u.2.1 u.2.2) H1 locs1 → W p l e R s m args below meth c H1 locs1 cells slots Q (F0 m (pc + 3) ls (.int r1 :: rest))) {st : List Value} (hst : st = As.reverse ++ .ref (h a) :: rest) : W p l e R s m args below meth c H locs cells slots Q (F0 m pc ls st) :=
  wd_Vi C hw (List.range 104) [] [0, 1, 2, 3] hM cW_rng (wr := []) rfl (by decide) rfl (fun i h => by cases h) rfl cw hrc (q0 := a) (by rw [cW_get ha, hce]) hlen hsize hroom hdg hf kk hst
theorem c_Vl {K : Int64 → cS → Prop} (C : CallFix p m c cc nL s args Ts own) (hw : Wd D A s (cT cI cL cF cM) (cW h cI cL cF cM F L r) H locs) (hM : Cl l y wsY rm (.ref (h a) :: As) D (cT cI cL cF cM) (cWu h cI cL cF cM) (F, L, r) K) (cw : CallW R s args own Cn index y bytes maxL ret wsY rm 0 0 n) (hrc : vwCl[ci]? = some (Cn, T, N)) (ha : a < 104) (hce : ∀ f l r, cE h cI cL cF cM a f l r = .inr (ci, fl f l r)) (hlen : As.length = n) (hsize : ls.size = nL) (hroom : (rest.map fun v => v.category).sum ≤ 8) (hdg : decode cc pc = .ok (.invokevirtual index, 3)) (hf : cells ≤ R.cells ∧ slots ≤ R.slots)
    (kk : ∀ (r1 : Int64) (u : cS) (H1 : Heap) (locs1 : List Loc), K r1 u → Wd D A s (cT cI cL cF cM) (cW h cI cL cF cM u.1 u.2.1 u.2.2) H1 locs1 → W p l e R s m args below meth c H1 locs1 cells slots Q (F0 m (pc + 3) ls (.long r1 :: rest))) {st : List Value} (hst : st = As.reverse ++ .ref (h a) :: rest) : W p l e R s m args below meth c H locs cells slots Q (F0 m pc ls st) :=
  wd_Vl C hw (List.range 104) [] [0, 1, 2, 3] hM cW_rng (wr := []) rfl (by decide) rfl (fun i h => by cases h) rfl cw hrc (q0 := a) (by rw [cW_get ha, hce]) hlen hsize hroom hdg hf kk hst
theorem c_Vv {K : cS → Prop} (C : CallFix p m c cc nL s args Ts own) (hw : Wd D A s (cT cI cL cF cM) (cW h cI cL cF cM F L r) H locs) (hM : Cv l y wsY rm (.ref (h a) :: As) D (cT cI cL cF cM) (cWu h cI cL cF cM) (F, L, r) K) (cw : CallW R s args own Cn index y bytes maxL ret wsY rm 0 0 n) (hrc : vwCl[ci]? = some (Cn, T, N)) (ha : a < 104) (hce : ∀ f l r, cE h cI cL cF cM a f l r = .inr (ci, fl f l r)) (hlen : As.length = n) (hsize : ls.size = nL) (hroom : (rest.map fun v => v.category).sum ≤ 8) (hdg : decode cc pc = .ok (.invokevirtual index, 3)) (hf : cells ≤ R.cells ∧ slots ≤ R.slots)
    (kk : ∀ (u : cS) (H1 : Heap) (locs1 : List Loc), K u → Wd D A s (cT cI cL cF cM) (cW h cI cL cF cM u.1 u.2.1 u.2.2) H1 locs1 → W p l e R s m args below meth c H1 locs1 cells slots Q (F0 m (pc + 3) ls rest)) {st : List Value} (hst : st = As.reverse ++ .ref (h a) :: rest) : W p l e R s m args below meth c H locs cells slots Q (F0 m pc ls st) :=
  wd_Vv C hw (List.range 104) [] [0, 1, 2, 3] hM cW_rng (wr := []) rfl (by decide) rfl (fun i h => by cases h) rfl cw hrc (q0 := a) (by rw [cW_get ha, hce]) hlen hsize hroom hdg hf kk hst
theorem c_Vr {K : Nat → cS → Prop} (C : CallFix p m c cc nL s args Ts own) (hw : Wd D A s (cT cI cL cF cM) (cW h cI cL cF cM F L r) H locs) (hM : Cr l y wsY rm (.ref (h a) :: As) D (cT cI cL cF cM) (cWu h cI cL cF cM) h (F, L, r) K) (cw : CallW R s args own Cn index y bytes maxL ret wsY rm 0 0 n) (hrc : vwCl[ci]? = some (Cn, T, N)) (ha : a < 104) (hce : ∀ f l r, cE h cI cL cF cM a f l r = .inr (ci, fl f l r)) (hlen : As.length = n) (hsize : ls.size = nL) (hroom : (rest.map fun v => v.category).sum ≤ 8) (hdg : decode cc pc = .ok (.invokevirtual index, 3)) (hf : cells ≤ R.cells ∧ slots ≤ R.slots)
    (kk : ∀ (r1 : Nat) (u : cS) (H1 : Heap) (locs1 : List Loc), K r1 u → Wd D A s (cT cI cL cF cM) (cW h cI cL cF cM u.1 u.2.1 u.2.2) H1 locs1 → W p l e R s m args below meth c H1 locs1 cells slots Q (F0 m (pc + 3) ls (.ref (h r1) :: rest))) {st : List Value} (hst : st = As.reverse ++ .ref (h a) :: rest) : W p l e R s m args below meth c H locs cells slots Q (F0 m pc ls st) :=
  wd_Vr C hw (List.range 104) [] [0, 1, 2, 3] hM cW_rng (wr := []) rfl (by decide) rfl (fun i h => by cases h) rfl cw hrc (q0 := a) (by rw [cW_get ha, hce]) hlen hsize hroom hdg hf kk hst
end CR
