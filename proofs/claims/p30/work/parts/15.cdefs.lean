/-! What the walks ask, as plain statements. -/
def wpX1_clearWalls_b2_body (B2 : (Nat → Nat → Int32) → (Nat → Nat → Int64) → (Nat → Nat → Nat) → Int32 → Prop) (a0 : Nat) (F : Nat → Nat → Int32) (L : Nat → Nat → Int64) (r : Nat → Nat → Nat) (x1 : Int32) (K : cS → Prop) : Prop :=
  (((4 : Int32) ≤ x1) →
    K (F, L, r)) ∧
  (¬ ((4 : Int32) ≤ x1) →
    vp_in x1 4 ∧ vp_in x1 4 ∧ B2 F (ptL L (a0 + 1) (ix x1) (L (a0 + 3) (ix x1))) r (x1 + (1 : Int32)))
def wpX1_clearWalls_b2 (a0 : Nat) (n_ : Nat) (F : Nat → Nat → Int32) (L : Nat → Nat → Int64) (r : Nat → Nat → Nat) (x1 : Int32) (K : cS → Prop) : Prop := match n_ with
  | 0 => False
  | n + 1 => wpX1_clearWalls_b2_body (fun F L r x1 => wpX1_clearWalls_b2 a0 n F L r x1 K) a0 F L r x1 K
def wpX1_clearWalls_b0 (a0 : Nat) (F : Nat → Nat → Int32) (L : Nat → Nat → Int64) (r : Nat → Nat → Nat) (K : cS → Prop) : Prop :=
  ∃ n, wpX1_clearWalls_b2 a0 n F L r (0 : Int32) K
def wpX1_clearWalls (a0 : Nat) (F : Nat → Nat → Int32) (L : Nat → Nat → Int64) (r : Nat → Nat → Nat) (K : cS → Prop) : Prop := wpX1_clearWalls_b0 a0 F L r K
def wpX1_lay_b32_body (B32 : (Nat → Nat → Int32) → (Nat → Nat → Int64) → (Nat → Nat → Nat) → Int32 → Int32 → Int64 → Int32 → Prop) (a0 : Nat) (F : Nat → Nat → Int32) (L : Nat → Nat → Int64) (r : Nat → Nat → Nat) (x1 : Int32) (x2 : Int32) (x3 : Int64) (x5 : Int32) (K : cS → Prop) : Prop :=
  ((x2 ≤ x5) →
    vp_in (0 : Int32) 4 ∧ vp_in (1 : Int32) 4 ∧ vp_in (0 : Int32) 4 ∧ vp_in (2 : Int32) 4 ∧ vp_in (3 : Int32) 4 ∧ vp_in (0 : Int32) 4 ∧ vp_in (1 : Int32) 4 ∧ vp_in (2 : Int32) 4 ∧ vp_in (3 : Int32) 4 ∧ wpX1_clearWalls a0 (pt (pt (pt (pt F (a0 + 2) (ix (0 : Int32)) (-x1)) (a0 + 2) (ix (1 : Int32)) (1 : Int32)) (a0 + 2) (ix (2 : Int32)) x1) (a0 + 2) (ix (3 : Int32)) (-1 : Int32)) (ptL (ptL (ptL (ptL L (a0 + 3) (ix (0 : Int32)) ((jlshl (1 : Int64) x1) - (1 : Int64))) (a0 + 3) (ix (1 : Int32)) (jlshl x3 (x1 - (1 : Int32)))) (a0 + 3) (ix (2 : Int32)) (jlshl ((ptL (ptL L (a0 + 3) (ix (0 : Int32)) ((jlshl (1 : Int64) x1) - (1 : Int64))) (a0 + 3) (ix (1 : Int32)) (jlshl x3 (x1 - (1 : Int32)))) (a0 + 3) (ix (0 : Int32))) ((F a0 2) - x1))) (a0 + 3) (ix (3 : Int32)) x3) r (fun u131 =>
      K (u131.1, u131.2.1, u131.2.2))) ∧
  (¬ (x2 ≤ x5) →
    B32 F L r x1 x2 (x3 ||| (jlshl (1 : Int64) (x5 * x1))) (x5 + (1 : Int32)))
def wpX1_lay_b32 (a0 : Nat) (n_ : Nat) (F : Nat → Nat → Int32) (L : Nat → Nat → Int64) (r : Nat → Nat → Nat) (x1 : Int32) (x2 : Int32) (x3 : Int64) (x5 : Int32) (K : cS → Prop) : Prop := match n_ with
  | 0 => False
  | n + 1 => wpX1_lay_b32_body (fun F L r x1 x2 x3 x5 => wpX1_lay_b32 a0 n F L r x1 x2 x3 x5 K) a0 F L r x1 x2 x3 x5 K
def wpX1_lay_b0 (a0 : Nat) (F : Nat → Nat → Int32) (L : Nat → Nat → Int64) (r : Nat → Nat → Nat) (x1 : Int32) (x2 : Int32) (K : cS → Prop) : Prop :=
  ∃ n, wpX1_lay_b32 a0 n (pt (pt (pt (pt F a0 0 x1) a0 1 x2) a0 2 (x1 * x2)) a0 3 (((pt (pt (pt F a0 0 x1) a0 1 x2) a0 2 (x1 * x2)) a0 2) - (1 : Int32))) L r x1 x2 (0 : Int64) (0 : Int32) K
def wpX1_lay (a0 : Nat) (F : Nat → Nat → Int32) (L : Nat → Nat → Int64) (r : Nat → Nat → Nat) (x1 : Int32) (x2 : Int32) (K : cS → Prop) : Prop := wpX1_lay_b0 a0 F L r x1 x2 K
def wpX9_hasRoomFor_b17 (F : Nat → Nat → Int32) (L : Nat → Nat → Int64) (r : Nat → Nat → Nat) (k0 : Int32) (K : Int32 → cS → Prop) : Prop :=
  isB k0 ∧ K k0 (F, L, r)
def wpX9_hasRoomFor_b0 (F : Nat → Nat → Int32) (L : Nat → Nat → Int64) (r : Nat → Nat → Nat) (x1 : Int32) (K : Int32 → cS → Prop) : Prop :=
  (((500 : Int32) < ((F 4 0) + x1)) →
    wpX9_hasRoomFor_b17 F L r (0 : Int32) K) ∧
  (¬ ((500 : Int32) < ((F 4 0) + x1)) →
    wpX9_hasRoomFor_b17 F L r (1 : Int32) K)
def wpX9_hasRoomFor (F : Nat → Nat → Int32) (L : Nat → Nat → Int64) (r : Nat → Nat → Nat) (x1 : Int32) (K : Int32 → cS → Prop) : Prop := wpX9_hasRoomFor_b0 F L r x1 K
def wpX9_append_b49 (F : Nat → Nat → Int32) (L : Nat → Nat → Int64) (r : Nat → Nat → Nat) (K : cS → Prop) : Prop :=
  K (F, L, r)
def wpX9_append_b3_body (B3 : (Nat → Nat → Int32) → (Nat → Nat → Int64) → (Nat → Nat → Nat) → Int32 → Int32 → Prop) (F : Nat → Nat → Int32) (L : Nat → Nat → Int64) (r : Nat → Nat → Nat) (x1 : Int32) (x2 : Int32) (K : cS → Prop) : Prop :=
  ((x2 < 0) →
    wpX9_append_b49 F L r K) ∧
  (¬ (x2 < 0) →
    (((500 : Int32) ≤ (F 4 0)) →
      wpX9_append_b49 F L r K) ∧
    (¬ ((500 : Int32) ≤ (F 4 0)) →
      vp_in (F 4 0) 500 ∧ B3 (pt (pt F 5 (ix (F 4 0)) ((jushr x1 x2) &&& (255 : Int32))) 4 0 (((pt F 5 (ix (F 4 0)) ((jushr x1 x2) &&& (255 : Int32))) 4 0) + (1 : Int32))) L r x1 (x2 + (-8 : Int32))))
def wpX9_append_b3 (n_ : Nat) (F : Nat → Nat → Int32) (L : Nat → Nat → Int64) (r : Nat → Nat → Nat) (x1 : Int32) (x2 : Int32) (K : cS → Prop) : Prop := match n_ with
  | 0 => False
  | n + 1 => wpX9_append_b3_body (fun F L r x1 x2 => wpX9_append_b3 n F L r x1 x2 K) F L r x1 x2 K
def wpX9_append_b0 (F : Nat → Nat → Int32) (L : Nat → Nat → Int64) (r : Nat → Nat → Nat) (x1 : Int32) (K : cS → Prop) : Prop :=
  ∃ n, wpX9_append_b3 n F L r x1 (24 : Int32) K
def wpX9_append (F : Nat → Nat → Int32) (L : Nat → Nat → Int64) (r : Nat → Nat → Nat) (x1 : Int32) (K : cS → Prop) : Prop := wpX9_append_b0 F L r x1 K
def wpX10_feed_b0 (F : Nat → Nat → Int32) (L : Nat → Nat → Int64) (r : Nat → Nat → Nat) (x1 : Int32) (x2 : Int32) (x3 : Int32) (x4 : Int32) (x5 : Int32) (K : Int32 → cS → Prop) : Prop :=
  wpX9_hasRoomFor F L r (20 : Int32) (fun r6 u6 =>
    (¬ (r6 = 0) →
    wpX9_append u6.1 u6.2.1 u6.2.2 x1 (fun u19 =>
      wpX9_append u19.1 u19.2.1 u19.2.2 x2 (fun u27 =>
      wpX9_append u27.1 u27.2.1 u27.2.2 x3 (fun u35 =>
      wpX9_append u35.1 u35.2.1 u35.2.2 x4 (fun u44 =>
      wpX9_append u44.1 u44.2.1 u44.2.2 x5 (fun u53 =>
      K (u53.1 4 0) (u53.1, u53.2.1, u53.2.2))))))) ∧
  ((r6 = 0) →
    K (-1 : Int32) (u6.1, u6.2.1, u6.2.2)))
def wpX10_feed (F : Nat → Nat → Int32) (L : Nat → Nat → Int64) (r : Nat → Nat → Nat) (x1 : Int32) (x2 : Int32) (x3 : Int32) (x4 : Int32) (x5 : Int32) (K : Int32 → cS → Prop) : Prop := wpX10_feed_b0 F L r x1 x2 x3 x4 x5 K
def wpX9_byteAt_b29 (F : Nat → Nat → Int32) (L : Nat → Nat → Int64) (r : Nat → Nat → Nat) (k0 : Int32) (K : Int32 → cS → Prop) : Prop :=
  K k0 (F, L, r)
def wpX9_byteAt_b28 (F : Nat → Nat → Int32) (L : Nat → Nat → Int64) (r : Nat → Nat → Nat) (K : Int32 → cS → Prop) : Prop :=
  wpX9_byteAt_b29 F L r (-1 : Int32) K
def wpX9_byteAt_b0 (F : Nat → Nat → Int32) (L : Nat → Nat → Int64) (r : Nat → Nat → Nat) (x1 : Int32) (K : Int32 → cS → Prop) : Prop :=
  ((x1 < 0) →
    wpX9_byteAt_b28 F L r K) ∧
  (¬ (x1 < 0) →
    (((F 4 14) ≤ x1) →
      wpX9_byteAt_b28 F L r K) ∧
    (¬ ((F 4 14) ≤ x1) →
      (((500 : Int32) ≤ x1) →
        wpX9_byteAt_b28 F L r K) ∧
      (¬ ((500 : Int32) ≤ x1) →
        vp_in x1 500 ∧ wpX9_byteAt_b29 F L r (F 5 (ix x1)) K)))
def wpX9_byteAt (F : Nat → Nat → Int32) (L : Nat → Nat → Int64) (r : Nat → Nat → Nat) (x1 : Int32) (K : Int32 → cS → Prop) : Prop := wpX9_byteAt_b0 F L r x1 K
def wpX9_isLetter_b17 (k0 : Int32) (K : Int32 → Unit → Prop) : Prop :=
  isB k0 ∧ K k0 ()
def wpX9_isLetter_b16 (K : Int32 → Unit → Prop) : Prop :=
  wpX9_isLetter_b17 (0 : Int32) K
def wpX9_isLetter_b0 (x0 : Int32) (K : Int32 → Unit → Prop) : Prop :=
  ((x0 < (97 : Int32)) →
    wpX9_isLetter_b16  K) ∧
  (¬ (x0 < (97 : Int32)) →
    (((122 : Int32) < x0) →
      wpX9_isLetter_b16  K) ∧
    (¬ ((122 : Int32) < x0) →
      wpX9_isLetter_b17 (1 : Int32) K))
def wpX9_isLetter (x0 : Int32) (K : Int32 → Unit → Prop) : Prop := wpX9_isLetter_b0  x0 K
def wpX9_letterCode_b0 (x0 : Int32) (K : Int32 → Unit → Prop) : Prop :=
  K ((x0 - (97 : Int32)) + (1 : Int32)) ()
def wpX9_letterCode (x0 : Int32) (K : Int32 → Unit → Prop) : Prop := wpX9_letterCode_b0  x0 K
def wpX9_packWord_b76 (F : Nat → Nat → Int32) (L : Nat → Nat → Int64) (r : Nat → Nat → Nat) (x2 : Int32) (K : Int32 → cS → Prop) : Prop :=
  K x2 (F, L, r)
def wpX9_packWord_b62 (B7 : (Nat → Nat → Int32) → (Nat → Nat → Int64) → (Nat → Nat → Nat) → Int32 → Int32 → Prop) (F : Nat → Nat → Int32) (L : Nat → Nat → Int64) (r : Nat → Nat → Nat) (k0 : Int32) (x1 : Int32) (K : Int32 → cS → Prop) : Prop :=
  B7 (pt F 4 15 ((F 4 15) + (1 : Int32))) L r x1 k0
def wpX9_packWord_b7_body (B7 : (Nat → Nat → Int32) → (Nat → Nat → Int64) → (Nat → Nat → Nat) → Int32 → Int32 → Prop) (F : Nat → Nat → Int32) (L : Nat → Nat → Int64) (r : Nat → Nat → Nat) (x1 : Int32) (x2 : Int32) (K : Int32 → cS → Prop) : Prop :=
  (((F 4 14) ≤ (F 4 15)) →
    wpX9_packWord_b76 F L r x2 K) ∧
  (¬ ((F 4 14) ≤ (F 4 15)) →
    wpX9_byteAt F L r (F 4 15) (fun r23 u23 =>
      wpX9_isLetter r23 (fun r26 u26 =>
      ((r26 = 0) →
      wpX9_packWord_b76 u23.1 u23.2.1 u23.2.2 x2 K) ∧
    (¬ (r26 = 0) →
      (((6 : Int32) ≤ ((u23.1 4 15) - x1)) →
        wpX9_packWord_b62 B7 u23.1 u23.2.1 u23.2.2 (0 : Int32) x1 K) ∧
      (¬ ((6 : Int32) ≤ ((u23.1 4 15) - x1)) →
        wpX9_byteAt u23.1 u23.2.1 u23.2.2 (u23.1 4 15) (fun r51 u51 =>
          wpX9_letterCode r51 (fun r54 u54 =>
          wpX9_packWord_b62 B7 u51.1 u51.2.1 u51.2.2 ((jshl x2 (5 : Int32)) ||| r54) x1 K)))))))
def wpX9_packWord_b7 (n_ : Nat) (F : Nat → Nat → Int32) (L : Nat → Nat → Int64) (r : Nat → Nat → Nat) (x1 : Int32) (x2 : Int32) (K : Int32 → cS → Prop) : Prop := match n_ with
  | 0 => False
  | n + 1 => wpX9_packWord_b7_body (fun F L r x1 x2 => wpX9_packWord_b7 n F L r x1 x2 K) F L r x1 x2 K
def wpX9_packWord_b0 (F : Nat → Nat → Int32) (L : Nat → Nat → Int64) (r : Nat → Nat → Nat) (K : Int32 → cS → Prop) : Prop :=
  ∃ n, wpX9_packWord_b7 n F L r (F 4 15) (0 : Int32) K
def wpX9_packWord (F : Nat → Nat → Int32) (L : Nat → Nat → Int64) (r : Nat → Nat → Nat) (K : Int32 → cS → Prop) : Prop := wpX9_packWord_b0 F L r K
def wpX9_indexOfWord_b56 (B7 : Int32 → Int32 → Int32 → Int32 → Prop) (z1 : Nat) (x0 : Int32) (x2 : Int32) (x3 : Int32) (x4 : Int32) (K : Int32 → Unit → Prop) : Prop :=
  B7 x0 x2 x3 (x4 + (1 : Int32))
def wpX9_indexOfWord_b7_body (B7 : Int32 → Int32 → Int32 → Int32 → Prop) (z1 : Nat) (x0 : Int32) (x2 : Int32) (x3 : Int32) (x4 : Int32) (K : Int32 → Unit → Prop) : Prop :=
  wpJ0_length_8abf5 z1 (fun r10 u10 =>
    ((r10 ≤ x4) →
    K (-1 : Int32) ()) ∧
  (¬ (r10 ≤ x4) →
    wpJ0_charAt_5068e z1 x4 (fun r19 u19 =>
      ((r19 = (32 : Int32)) →
      (¬ (x3 = x0) →
        wpX9_indexOfWord_b56 B7 z1 x0 (x2 + (1 : Int32)) (0 : Int32) x4 K) ∧
      ((x3 = x0) →
        K x2 ())) ∧
    (¬ (r19 = (32 : Int32)) →
      wpX9_letterCode r19 (fun r36 u36 =>
        wpX9_indexOfWord_b56 B7 z1 x0 x2 ((jshl x3 (5 : Int32)) ||| r36) x4 K)))))
def wpX9_indexOfWord_b7 (z1 : Nat) (n_ : Nat) (x0 : Int32) (x2 : Int32) (x3 : Int32) (x4 : Int32) (K : Int32 → Unit → Prop) : Prop := match n_ with
  | 0 => False
  | n + 1 => wpX9_indexOfWord_b7_body (fun x0 x2 x3 x4 => wpX9_indexOfWord_b7 z1 n x0 x2 x3 x4 K) z1 x0 x2 x3 x4 K
def wpX9_indexOfWord_b0 (z1 : Nat) (x0 : Int32) (K : Int32 → Unit → Prop) : Prop :=
  ∃ n, wpX9_indexOfWord_b7 z1 n x0 (0 : Int32) (0 : Int32) (0 : Int32) K
def wpX9_indexOfWord (z1 : Nat) (x0 : Int32) (K : Int32 → Unit → Prop) : Prop := wpX9_indexOfWord_b0 z1  x0 K
def wpX9_addToken_b63 (F : Nat → Nat → Int32) (L : Nat → Nat → Int64) (r : Nat → Nat → Nat) (K : cS → Prop) : Prop :=
  K (F, L, r)
def wpX9_addToken_b0 (F : Nat → Nat → Int32) (L : Nat → Nat → Int64) (r : Nat → Nat → Nat) (x1 : Int32) (x2 : Int32) (x3 : Int32) (x4 : Int32) (K : cS → Prop) : Prop :=
  (((501 : Int32) ≤ (F 4 12)) →
    wpX9_addToken_b63 F L r K) ∧
  (¬ ((501 : Int32) ≤ (F 4 12)) →
    vp_in (F 4 12) 501 ∧ vp_in ((pt F 6 (ix (F 4 12)) x1) 4 12) 501 ∧ vp_in ((pt (pt F 6 (ix (F 4 12)) x1) 7 (ix ((pt F 6 (ix (F 4 12)) x1) 4 12)) x2) 4 12) 501 ∧ vp_in ((pt (pt (pt F 6 (ix (F 4 12)) x1) 7 (ix ((pt F 6 (ix (F 4 12)) x1) 4 12)) x2) 8 (ix ((pt (pt F 6 (ix (F 4 12)) x1) 7 (ix ((pt F 6 (ix (F 4 12)) x1) 4 12)) x2) 4 12)) x3) 4 12) 501 ∧ wpX9_addToken_b63 (pt (pt (pt (pt (pt F 6 (ix (F 4 12)) x1) 7 (ix ((pt F 6 (ix (F 4 12)) x1) 4 12)) x2) 8 (ix ((pt (pt F 6 (ix (F 4 12)) x1) 7 (ix ((pt F 6 (ix (F 4 12)) x1) 4 12)) x2) 4 12)) x3) 9 (ix ((pt (pt (pt F 6 (ix (F 4 12)) x1) 7 (ix ((pt F 6 (ix (F 4 12)) x1) 4 12)) x2) 8 (ix ((pt (pt F 6 (ix (F 4 12)) x1) 7 (ix ((pt F 6 (ix (F 4 12)) x1) 4 12)) x2) 4 12)) x3) 4 12)) x4) 4 12 (((pt (pt (pt (pt F 6 (ix (F 4 12)) x1) 7 (ix ((pt F 6 (ix (F 4 12)) x1) 4 12)) x2) 8 (ix ((pt (pt F 6 (ix (F 4 12)) x1) 7 (ix ((pt F 6 (ix (F 4 12)) x1) 4 12)) x2) 4 12)) x3) 9 (ix ((pt (pt (pt F 6 (ix (F 4 12)) x1) 7 (ix ((pt F 6 (ix (F 4 12)) x1) 4 12)) x2) 8 (ix ((pt (pt F 6 (ix (F 4 12)) x1) 7 (ix ((pt F 6 (ix (F 4 12)) x1) 4 12)) x2) 4 12)) x3) 4 12)) x4) 4 12) + (1 : Int32))) L r K)
def wpX9_addToken (F : Nat → Nat → Int32) (L : Nat → Nat → Int64) (r : Nat → Nat → Nat) (x1 : Int32) (x2 : Int32) (x3 : Int32) (x4 : Int32) (K : cS → Prop) : Prop := wpX9_addToken_b0 F L r x1 x2 x3 x4 K
def wpX9_isDigit_b17 (k0 : Int32) (K : Int32 → Unit → Prop) : Prop :=
  isB k0 ∧ K k0 ()
def wpX9_isDigit_b16 (K : Int32 → Unit → Prop) : Prop :=
  wpX9_isDigit_b17 (0 : Int32) K
def wpX9_isDigit_b0 (x0 : Int32) (K : Int32 → Unit → Prop) : Prop :=
  ((x0 < (48 : Int32)) →
    wpX9_isDigit_b16  K) ∧
  (¬ (x0 < (48 : Int32)) →
    (((57 : Int32) < x0) →
      wpX9_isDigit_b16  K) ∧
    (¬ ((57 : Int32) < x0) →
      wpX9_isDigit_b17 (1 : Int32) K))
def wpX9_isDigit (x0 : Int32) (K : Int32 → Unit → Prop) : Prop := wpX9_isDigit_b0  x0 K
def wpX9_packNumber_b63 (F : Nat → Nat → Int32) (L : Nat → Nat → Int64) (r : Nat → Nat → Nat) (x1 : Int32) (K : Int32 → cS → Prop) : Prop :=
  K x1 (F, L, r)
def wpX9_packNumber_b2_body (B2 : (Nat → Nat → Int32) → (Nat → Nat → Int64) → (Nat → Nat → Nat) → Int32 → Prop) (F : Nat → Nat → Int32) (L : Nat → Nat → Int64) (r : Nat → Nat → Nat) (x1 : Int32) (K : Int32 → cS → Prop) : Prop :=
  (((F 4 14) ≤ (F 4 15)) →
    wpX9_packNumber_b63 F L r x1 K) ∧
  (¬ ((F 4 14) ≤ (F 4 15)) →
    wpX9_byteAt F L r (F 4 15) (fun r18 u18 =>
      wpX9_isDigit r18 (fun r21 u21 =>
      ((r21 = 0) →
      wpX9_packNumber_b63 u18.1 u18.2.1 u18.2.2 x1 K) ∧
    (¬ (r21 = 0) →
      wpX9_byteAt u18.1 u18.2.1 u18.2.2 (u18.1 4 15) (fun r39 u39 =>
        ∀ y49 : Int32, y49 = jmin (1000 : Int32) (((x1 * (10 : Int32)) + r39) - (48 : Int32)) → B2 (pt u39.1 4 15 ((u39.1 4 15) + (1 : Int32))) u39.2.1 u39.2.2 y49)))))
def wpX9_packNumber_b2 (n_ : Nat) (F : Nat → Nat → Int32) (L : Nat → Nat → Int64) (r : Nat → Nat → Nat) (x1 : Int32) (K : Int32 → cS → Prop) : Prop := match n_ with
  | 0 => False
  | n + 1 => wpX9_packNumber_b2_body (fun F L r x1 => wpX9_packNumber_b2 n F L r x1 K) F L r x1 K
def wpX9_packNumber_b0 (F : Nat → Nat → Int32) (L : Nat → Nat → Int64) (r : Nat → Nat → Nat) (K : Int32 → cS → Prop) : Prop :=
  ∃ n, wpX9_packNumber_b2 n F L r (0 : Int32) K
def wpX9_packNumber (F : Nat → Nat → Int32) (L : Nat → Nat → Int64) (r : Nat → Nat → Nat) (K : Int32 → cS → Prop) : Prop := wpX9_packNumber_b0 F L r K
def wpX9_isBlank_b17 (k0 : Int32) (K : Int32 → Unit → Prop) : Prop :=
  isB k0 ∧ K k0 ()
def wpX9_isBlank_b12 (K : Int32 → Unit → Prop) : Prop :=
  wpX9_isBlank_b17 (1 : Int32) K
def wpX9_isBlank_b0 (x0 : Int32) (K : Int32 → Unit → Prop) : Prop :=
  ((x0 = (10 : Int32)) →
    wpX9_isBlank_b12  K) ∧
  (¬ (x0 = (10 : Int32)) →
    (¬ (x0 = (32 : Int32)) →
      wpX9_isBlank_b17 (0 : Int32) K) ∧
    ((x0 = (32 : Int32)) →
      wpX9_isBlank_b12  K))
def wpX9_isBlank (x0 : Int32) (K : Int32 → Unit → Prop) : Prop := wpX9_isBlank_b0  x0 K
def wpX9_findToken_b90 (z1 : Nat) (F : Nat → Nat → Int32) (L : Nat → Nat → Int64) (r : Nat → Nat → Nat) (K : cS → Prop) : Prop :=
  K (F, L, r)
def wpX9_findToken_b0 (z1 : Nat) (F : Nat → Nat → Int32) (L : Nat → Nat → Int64) (r : Nat → Nat → Nat) (K : cS → Prop) : Prop :=
  wpX9_byteAt F L r (F 4 15) (fun r5 u5 =>
    wpX9_isLetter r5 (fun r15 u15 =>
    ((r15 = 0) →
    wpX9_isDigit r5 (fun r45 u45 =>
      ((r45 = 0) →
      wpX9_isBlank r5 (fun r76 u76 =>
        (¬ (r76 = 0) →
        wpX9_findToken_b90 z1 (pt u5.1 4 15 ((u5.1 4 15) + (1 : Int32))) u5.2.1 u5.2.2 K) ∧
      ((r76 = 0) →
        wpX9_addToken (pt u5.1 4 15 ((u5.1 4 15) + (1 : Int32))) u5.2.1 u5.2.2 (3 : Int32) (u5.1 4 15) r5 (-1 : Int32) (fun u87 =>
          wpX9_findToken_b90 z1 u87.1 u87.2.1 u87.2.2 K)))) ∧
    (¬ (r45 = 0) →
      wpX9_packNumber u5.1 u5.2.1 u5.2.2 (fun r55 u55 =>
        wpX9_addToken u55.1 u55.2.1 u55.2.2 (2 : Int32) (u5.1 4 15) r55 (-1 : Int32) (fun u59 =>
        wpX9_findToken_b90 z1 u59.1 u59.2.1 u59.2.2 K))))) ∧
  (¬ (r15 = 0) →
    wpX9_packWord u5.1 u5.2.1 u5.2.2 (fun r22 u22 =>
      wpX9_indexOfWord z1 r22 (fun r35 u35 =>
      wpX9_addToken u22.1 u22.2.1 u22.2.2 (1 : Int32) (u5.1 4 15) r22 r35 (fun u38 =>
      wpX9_findToken_b90 z1 u38.1 u38.2.1 u38.2.2 K))))))
def wpX9_findToken (z1 : Nat) (F : Nat → Nat → Int32) (L : Nat → Nat → Int64) (r : Nat → Nat → Nat) (K : cS → Prop) : Prop := wpX9_findToken_b0 z1 F L r K
def wpX9_advance_b106 (F : Nat → Nat → Int32) (L : Nat → Nat → Int64) (r : Nat → Nat → Nat) (K : cS → Prop) : Prop :=
  K (F, L, r)
def wpX9_advance_b83 (F : Nat → Nat → Int32) (L : Nat → Nat → Int64) (r : Nat → Nat → Nat) (K : cS → Prop) : Prop :=
  wpX9_advance_b106 (pt (pt (pt (pt F 4 3 (0 : Int32)) 4 4 ((pt F 4 3 (0 : Int32)) 4 14)) 4 5 (0 : Int32)) 4 6 (-1 : Int32)) L r K
def wpX9_advance_b0 (F : Nat → Nat → Int32) (L : Nat → Nat → Int64) (r : Nat → Nat → Nat) (K : cS → Prop) : Prop :=
  (((F 4 13) < 0) →
    wpX9_advance_b83 F L r K) ∧
  (¬ ((F 4 13) < 0) →
    (((F 4 12) ≤ (F 4 13)) →
      wpX9_advance_b83 F L r K) ∧
    (¬ ((F 4 12) ≤ (F 4 13)) →
      vp_in (F 4 13) 501 ∧ vp_in ((pt F 4 3 (F 6 (ix (F 4 13)))) 4 13) 501 ∧ vp_in ((pt (pt F 4 3 (F 6 (ix (F 4 13)))) 4 4 ((pt F 4 3 (F 6 (ix (F 4 13)))) 7 (ix ((pt F 4 3 (F 6 (ix (F 4 13)))) 4 13)))) 4 13) 501 ∧ vp_in ((pt (pt (pt F 4 3 (F 6 (ix (F 4 13)))) 4 4 ((pt F 4 3 (F 6 (ix (F 4 13)))) 7 (ix ((pt F 4 3 (F 6 (ix (F 4 13)))) 4 13)))) 4 5 ((pt (pt F 4 3 (F 6 (ix (F 4 13)))) 4 4 ((pt F 4 3 (F 6 (ix (F 4 13)))) 7 (ix ((pt F 4 3 (F 6 (ix (F 4 13)))) 4 13)))) 8 (ix ((pt (pt F 4 3 (F 6 (ix (F 4 13)))) 4 4 ((pt F 4 3 (F 6 (ix (F 4 13)))) 7 (ix ((pt F 4 3 (F 6 (ix (F 4 13)))) 4 13)))) 4 13)))) 4 13) 501 ∧ wpX9_advance_b106 (pt (pt (pt (pt (pt F 4 3 (F 6 (ix (F 4 13)))) 4 4 ((pt F 4 3 (F 6 (ix (F 4 13)))) 7 (ix ((pt F 4 3 (F 6 (ix (F 4 13)))) 4 13)))) 4 5 ((pt (pt F 4 3 (F 6 (ix (F 4 13)))) 4 4 ((pt F 4 3 (F 6 (ix (F 4 13)))) 7 (ix ((pt F 4 3 (F 6 (ix (F 4 13)))) 4 13)))) 8 (ix ((pt (pt F 4 3 (F 6 (ix (F 4 13)))) 4 4 ((pt F 4 3 (F 6 (ix (F 4 13)))) 7 (ix ((pt F 4 3 (F 6 (ix (F 4 13)))) 4 13)))) 4 13)))) 4 6 ((pt (pt (pt F 4 3 (F 6 (ix (F 4 13)))) 4 4 ((pt F 4 3 (F 6 (ix (F 4 13)))) 7 (ix ((pt F 4 3 (F 6 (ix (F 4 13)))) 4 13)))) 4 5 ((pt (pt F 4 3 (F 6 (ix (F 4 13)))) 4 4 ((pt F 4 3 (F 6 (ix (F 4 13)))) 7 (ix ((pt F 4 3 (F 6 (ix (F 4 13)))) 4 13)))) 8 (ix ((pt (pt F 4 3 (F 6 (ix (F 4 13)))) 4 4 ((pt F 4 3 (F 6 (ix (F 4 13)))) 7 (ix ((pt F 4 3 (F 6 (ix (F 4 13)))) 4 13)))) 4 13)))) 9 (ix ((pt (pt (pt F 4 3 (F 6 (ix (F 4 13)))) 4 4 ((pt F 4 3 (F 6 (ix (F 4 13)))) 7 (ix ((pt F 4 3 (F 6 (ix (F 4 13)))) 4 13)))) 4 5 ((pt (pt F 4 3 (F 6 (ix (F 4 13)))) 4 4 ((pt F 4 3 (F 6 (ix (F 4 13)))) 7 (ix ((pt F 4 3 (F 6 (ix (F 4 13)))) 4 13)))) 8 (ix ((pt (pt F 4 3 (F 6 (ix (F 4 13)))) 4 4 ((pt F 4 3 (F 6 (ix (F 4 13)))) 7 (ix ((pt F 4 3 (F 6 (ix (F 4 13)))) 4 13)))) 4 13)))) 4 13)))) 4 13 (((pt (pt (pt (pt F 4 3 (F 6 (ix (F 4 13)))) 4 4 ((pt F 4 3 (F 6 (ix (F 4 13)))) 7 (ix ((pt F 4 3 (F 6 (ix (F 4 13)))) 4 13)))) 4 5 ((pt (pt F 4 3 (F 6 (ix (F 4 13)))) 4 4 ((pt F 4 3 (F 6 (ix (F 4 13)))) 7 (ix ((pt F 4 3 (F 6 (ix (F 4 13)))) 4 13)))) 8 (ix ((pt (pt F 4 3 (F 6 (ix (F 4 13)))) 4 4 ((pt F 4 3 (F 6 (ix (F 4 13)))) 7 (ix ((pt F 4 3 (F 6 (ix (F 4 13)))) 4 13)))) 4 13)))) 4 6 ((pt (pt (pt F 4 3 (F 6 (ix (F 4 13)))) 4 4 ((pt F 4 3 (F 6 (ix (F 4 13)))) 7 (ix ((pt F 4 3 (F 6 (ix (F 4 13)))) 4 13)))) 4 5 ((pt (pt F 4 3 (F 6 (ix (F 4 13)))) 4 4 ((pt F 4 3 (F 6 (ix (F 4 13)))) 7 (ix ((pt F 4 3 (F 6 (ix (F 4 13)))) 4 13)))) 8 (ix ((pt (pt F 4 3 (F 6 (ix (F 4 13)))) 4 4 ((pt F 4 3 (F 6 (ix (F 4 13)))) 7 (ix ((pt F 4 3 (F 6 (ix (F 4 13)))) 4 13)))) 4 13)))) 9 (ix ((pt (pt (pt F 4 3 (F 6 (ix (F 4 13)))) 4 4 ((pt F 4 3 (F 6 (ix (F 4 13)))) 7 (ix ((pt F 4 3 (F 6 (ix (F 4 13)))) 4 13)))) 4 5 ((pt (pt F 4 3 (F 6 (ix (F 4 13)))) 4 4 ((pt F 4 3 (F 6 (ix (F 4 13)))) 7 (ix ((pt F 4 3 (F 6 (ix (F 4 13)))) 4 13)))) 8 (ix ((pt (pt F 4 3 (F 6 (ix (F 4 13)))) 4 4 ((pt F 4 3 (F 6 (ix (F 4 13)))) 7 (ix ((pt F 4 3 (F 6 (ix (F 4 13)))) 4 13)))) 4 13)))) 4 13)))) 4 13) + (1 : Int32))) L r K))
def wpX9_advance (F : Nat → Nat → Int32) (L : Nat → Nat → Int64) (r : Nat → Nat → Nat) (K : cS → Prop) : Prop := wpX9_advance_b0 F L r K
def wpX9_open_b66 (z2 : Nat) (F : Nat → Nat → Int32) (L : Nat → Nat → Int64) (r : Nat → Nat → Nat) (K : cS → Prop) : Prop :=
  wpX9_advance F L r (fun u67 =>
    K (u67.1, u67.2.1, u67.2.2))
def wpX9_open_b37_body (B37 : (Nat → Nat → Int32) → (Nat → Nat → Int64) → (Nat → Nat → Nat) → Int32 → Prop) (z2 : Nat) (F : Nat → Nat → Int32) (L : Nat → Nat → Int64) (r : Nat → Nat → Nat) (x3 : Int32) (K : cS → Prop) : Prop :=
  (((500 : Int32) ≤ x3) →
    wpX9_open_b66 z2 F L r K) ∧
  (¬ ((500 : Int32) ≤ x3) →
    (((F 4 14) ≤ (F 4 15)) →
      wpX9_open_b66 z2 F L r K) ∧
    (¬ ((F 4 14) ≤ (F 4 15)) →
      wpX9_findToken z2 F L r (fun u57 =>
        B37 u57.1 u57.2.1 u57.2.2 (x3 + (1 : Int32)))))
def wpX9_open_b37 (z2 : Nat) (n_ : Nat) (F : Nat → Nat → Int32) (L : Nat → Nat → Int64) (r : Nat → Nat → Nat) (x3 : Int32) (K : cS → Prop) : Prop := match n_ with
  | 0 => False
  | n + 1 => wpX9_open_b37_body (fun F L r x3 => wpX9_open_b37 z2 n F L r x3 K) z2 F L r x3 K
def wpX9_open_b0 (z2 : Nat) (F : Nat → Nat → Int32) (L : Nat → Nat → Int64) (r : Nat → Nat → Nat) (x1 : Int32) (K : cS → Prop) : Prop :=
  ∃ n, wpX9_open_b37 z2 n (pt (pt (pt (pt (pt (pt (pt F 4 14 x1) 4 15 (0 : Int32)) 4 12 (0 : Int32)) 4 13 (0 : Int32)) 4 0 (0 : Int32)) 4 1 (0 : Int32)) 4 2 (-1 : Int32)) L r (0 : Int32) K
def wpX9_open (z2 : Nat) (F : Nat → Nat → Int32) (L : Nat → Nat → Int64) (r : Nat → Nat → Nat) (x1 : Int32) (K : cS → Prop) : Prop := wpX9_open_b0 z2 F L r x1 K
def wpX9_refuse_b17 (F : Nat → Nat → Int32) (L : Nat → Nat → Int64) (r : Nat → Nat → Nat) (K : cS → Prop) : Prop :=
  K (F, L, r)
def wpX9_refuse_b0 (F : Nat → Nat → Int32) (L : Nat → Nat → Int64) (r : Nat → Nat → Nat) (x1 : Int32) (x2 : Int32) (K : cS → Prop) : Prop :=
  (¬ ((F 4 1) = 0) →
    wpX9_refuse_b17 F L r K) ∧
  (((F 4 1) = 0) →
    wpX9_refuse_b17 (pt (pt F 4 1 x1) 4 2 x2) L r K)
def wpX9_refuse (F : Nat → Nat → Int32) (L : Nat → Nat → Int64) (r : Nat → Nat → Nat) (x1 : Int32) (x2 : Int32) (K : cS → Prop) : Prop := wpX9_refuse_b0 F L r x1 x2 K
def wpX6_openLine_b0 (a0 : Nat) (F : Nat → Nat → Int32) (L : Nat → Nat → Int64) (r : Nat → Nat → Nat) (K : cS → Prop) : Prop :=
  (((F a0 0) < (30 : Int32)) →
    vp_in (F a0 0) 30 ∧ vp_in ((pt F (a0 + 3) (ix (F a0 0)) (0 : Int32)) a0 0) 30 ∧ vp_in ((pt (pt F (a0 + 3) (ix (F a0 0)) (0 : Int32)) (a0 + 4) (ix ((pt F (a0 + 3) (ix (F a0 0)) (0 : Int32)) a0 0)) (0 : Int32)) a0 0) 30 ∧ vp_in ((pt (pt (pt F (a0 + 3) (ix (F a0 0)) (0 : Int32)) (a0 + 4) (ix ((pt F (a0 + 3) (ix (F a0 0)) (0 : Int32)) a0 0)) (0 : Int32)) (a0 + 5) (ix ((pt (pt F (a0 + 3) (ix (F a0 0)) (0 : Int32)) (a0 + 4) (ix ((pt F (a0 + 3) (ix (F a0 0)) (0 : Int32)) a0 0)) (0 : Int32)) a0 0)) (0 : Int32)) a0 0) 30 ∧ vp_in ((pt (pt (pt (pt F (a0 + 3) (ix (F a0 0)) (0 : Int32)) (a0 + 4) (ix ((pt F (a0 + 3) (ix (F a0 0)) (0 : Int32)) a0 0)) (0 : Int32)) (a0 + 5) (ix ((pt (pt F (a0 + 3) (ix (F a0 0)) (0 : Int32)) (a0 + 4) (ix ((pt F (a0 + 3) (ix (F a0 0)) (0 : Int32)) a0 0)) (0 : Int32)) a0 0)) (0 : Int32)) (a0 + 6) (ix ((pt (pt (pt F (a0 + 3) (ix (F a0 0)) (0 : Int32)) (a0 + 4) (ix ((pt F (a0 + 3) (ix (F a0 0)) (0 : Int32)) a0 0)) (0 : Int32)) (a0 + 5) (ix ((pt (pt F (a0 + 3) (ix (F a0 0)) (0 : Int32)) (a0 + 4) (ix ((pt F (a0 + 3) (ix (F a0 0)) (0 : Int32)) a0 0)) (0 : Int32)) a0 0)) (0 : Int32)) a0 0)) (100 : Int32)) a0 0) 30 ∧ K (pt (pt (pt (pt (pt (pt F (a0 + 3) (ix (F a0 0)) (0 : Int32)) (a0 + 4) (ix ((pt F (a0 + 3) (ix (F a0 0)) (0 : Int32)) a0 0)) (0 : Int32)) (a0 + 5) (ix ((pt (pt F (a0 + 3) (ix (F a0 0)) (0 : Int32)) (a0 + 4) (ix ((pt F (a0 + 3) (ix (F a0 0)) (0 : Int32)) a0 0)) (0 : Int32)) a0 0)) (0 : Int32)) (a0 + 6) (ix ((pt (pt (pt F (a0 + 3) (ix (F a0 0)) (0 : Int32)) (a0 + 4) (ix ((pt F (a0 + 3) (ix (F a0 0)) (0 : Int32)) a0 0)) (0 : Int32)) (a0 + 5) (ix ((pt (pt F (a0 + 3) (ix (F a0 0)) (0 : Int32)) (a0 + 4) (ix ((pt F (a0 + 3) (ix (F a0 0)) (0 : Int32)) a0 0)) (0 : Int32)) a0 0)) (0 : Int32)) a0 0)) (100 : Int32)) (a0 + 2) (ix ((pt (pt (pt (pt F (a0 + 3) (ix (F a0 0)) (0 : Int32)) (a0 + 4) (ix ((pt F (a0 + 3) (ix (F a0 0)) (0 : Int32)) a0 0)) (0 : Int32)) (a0 + 5) (ix ((pt (pt F (a0 + 3) (ix (F a0 0)) (0 : Int32)) (a0 + 4) (ix ((pt F (a0 + 3) (ix (F a0 0)) (0 : Int32)) a0 0)) (0 : Int32)) a0 0)) (0 : Int32)) (a0 + 6) (ix ((pt (pt (pt F (a0 + 3) (ix (F a0 0)) (0 : Int32)) (a0 + 4) (ix ((pt F (a0 + 3) (ix (F a0 0)) (0 : Int32)) a0 0)) (0 : Int32)) (a0 + 5) (ix ((pt (pt F (a0 + 3) (ix (F a0 0)) (0 : Int32)) (a0 + 4) (ix ((pt F (a0 + 3) (ix (F a0 0)) (0 : Int32)) a0 0)) (0 : Int32)) a0 0)) (0 : Int32)) a0 0)) (100 : Int32)) a0 0)) (((pt (pt (pt (pt F (a0 + 3) (ix (F a0 0)) (0 : Int32)) (a0 + 4) (ix ((pt F (a0 + 3) (ix (F a0 0)) (0 : Int32)) a0 0)) (0 : Int32)) (a0 + 5) (ix ((pt (pt F (a0 + 3) (ix (F a0 0)) (0 : Int32)) (a0 + 4) (ix ((pt F (a0 + 3) (ix (F a0 0)) (0 : Int32)) a0 0)) (0 : Int32)) a0 0)) (0 : Int32)) (a0 + 6) (ix ((pt (pt (pt F (a0 + 3) (ix (F a0 0)) (0 : Int32)) (a0 + 4) (ix ((pt F (a0 + 3) (ix (F a0 0)) (0 : Int32)) a0 0)) (0 : Int32)) (a0 + 5) (ix ((pt (pt F (a0 + 3) (ix (F a0 0)) (0 : Int32)) (a0 + 4) (ix ((pt F (a0 + 3) (ix (F a0 0)) (0 : Int32)) a0 0)) (0 : Int32)) a0 0)) (0 : Int32)) a0 0)) (100 : Int32)) a0 0) * (12 : Int32))) a0 0 (((pt (pt (pt (pt (pt F (a0 + 3) (ix (F a0 0)) (0 : Int32)) (a0 + 4) (ix ((pt F (a0 + 3) (ix (F a0 0)) (0 : Int32)) a0 0)) (0 : Int32)) (a0 + 5) (ix ((pt (pt F (a0 + 3) (ix (F a0 0)) (0 : Int32)) (a0 + 4) (ix ((pt F (a0 + 3) (ix (F a0 0)) (0 : Int32)) a0 0)) (0 : Int32)) a0 0)) (0 : Int32)) (a0 + 6) (ix ((pt (pt (pt F (a0 + 3) (ix (F a0 0)) (0 : Int32)) (a0 + 4) (ix ((pt F (a0 + 3) (ix (F a0 0)) (0 : Int32)) a0 0)) (0 : Int32)) (a0 + 5) (ix ((pt (pt F (a0 + 3) (ix (F a0 0)) (0 : Int32)) (a0 + 4) (ix ((pt F (a0 + 3) (ix (F a0 0)) (0 : Int32)) a0 0)) (0 : Int32)) a0 0)) (0 : Int32)) a0 0)) (100 : Int32)) (a0 + 2) (ix ((pt (pt (pt (pt F (a0 + 3) (ix (F a0 0)) (0 : Int32)) (a0 + 4) (ix ((pt F (a0 + 3) (ix (F a0 0)) (0 : Int32)) a0 0)) (0 : Int32)) (a0 + 5) (ix ((pt (pt F (a0 + 3) (ix (F a0 0)) (0 : Int32)) (a0 + 4) (ix ((pt F (a0 + 3) (ix (F a0 0)) (0 : Int32)) a0 0)) (0 : Int32)) a0 0)) (0 : Int32)) (a0 + 6) (ix ((pt (pt (pt F (a0 + 3) (ix (F a0 0)) (0 : Int32)) (a0 + 4) (ix ((pt F (a0 + 3) (ix (F a0 0)) (0 : Int32)) a0 0)) (0 : Int32)) (a0 + 5) (ix ((pt (pt F (a0 + 3) (ix (F a0 0)) (0 : Int32)) (a0 + 4) (ix ((pt F (a0 + 3) (ix (F a0 0)) (0 : Int32)) a0 0)) (0 : Int32)) a0 0)) (0 : Int32)) a0 0)) (100 : Int32)) a0 0)) (((pt (pt (pt (pt F (a0 + 3) (ix (F a0 0)) (0 : Int32)) (a0 + 4) (ix ((pt F (a0 + 3) (ix (F a0 0)) (0 : Int32)) a0 0)) (0 : Int32)) (a0 + 5) (ix ((pt (pt F (a0 + 3) (ix (F a0 0)) (0 : Int32)) (a0 + 4) (ix ((pt F (a0 + 3) (ix (F a0 0)) (0 : Int32)) a0 0)) (0 : Int32)) a0 0)) (0 : Int32)) (a0 + 6) (ix ((pt (pt (pt F (a0 + 3) (ix (F a0 0)) (0 : Int32)) (a0 + 4) (ix ((pt F (a0 + 3) (ix (F a0 0)) (0 : Int32)) a0 0)) (0 : Int32)) (a0 + 5) (ix ((pt (pt F (a0 + 3) (ix (F a0 0)) (0 : Int32)) (a0 + 4) (ix ((pt F (a0 + 3) (ix (F a0 0)) (0 : Int32)) a0 0)) (0 : Int32)) a0 0)) (0 : Int32)) a0 0)) (100 : Int32)) a0 0) * (12 : Int32))) a0 0) + (1 : Int32)), L, r)) ∧
  (¬ ((F a0 0) < (30 : Int32)) →
    K (F, L, r))
def wpX6_openLine (a0 : Nat) (F : Nat → Nat → Int32) (L : Nat → Nat → Int64) (r : Nat → Nat → Nat) (K : cS → Prop) : Prop := wpX6_openLine_b0 a0 F L r K
def wpX7_isTest_b16 (k0 : Int32) (K : Int32 → Unit → Prop) : Prop :=
  isB k0 ∧ K k0 ()
def wpX7_isTest_b15 (K : Int32 → Unit → Prop) : Prop :=
  wpX7_isTest_b16 (0 : Int32) K
def wpX7_isTest_b0 (x0 : Int32) (K : Int32 → Unit → Prop) : Prop :=
  ((x0 < (3 : Int32)) →
    wpX7_isTest_b15  K) ∧
  (¬ (x0 < (3 : Int32)) →
    (((8 : Int32) < x0) →
      wpX7_isTest_b15  K) ∧
    (¬ ((8 : Int32) < x0) →
      wpX7_isTest_b16 (1 : Int32) K))
def wpX7_isTest (x0 : Int32) (K : Int32 → Unit → Prop) : Prop := wpX7_isTest_b0  x0 K
def wpX7_mostOf_b0 (x0 : Int32) (K : Int32 → Unit → Prop) : Prop :=
  (x0 = (6 : Int32) →
    K (2 : Int32) ()) ∧
  (x0 = (7 : Int32) →
    K (99 : Int32) ()) ∧
  (x0 = (8 : Int32) →
    K (9 : Int32) ()) ∧
  (x0 = (9 : Int32) →
    K (2 : Int32) ()) ∧
  (x0 = (10 : Int32) →
    K (2 : Int32) ()) ∧
  ((x0).toInt < 6 ∨ 10 < (x0).toInt →
    K (-1 : Int32) ())
def wpX7_mostOf (x0 : Int32) (K : Int32 → Unit → Prop) : Prop := wpX7_mostOf_b0  x0 K
def wpX7_readNumberOf_b86 (F : Nat → Nat → Int32) (L : Nat → Nat → Int64) (r : Nat → Nat → Nat) (x3 : Int32) (K : Int32 → cS → Prop) : Prop :=
  K x3 (F, L, r)
def wpX7_readNumberOf_b0 (F : Nat → Nat → Int32) (L : Nat → Nat → Int64) (r : Nat → Nat → Nat) (x1 : Int32) (K : Int32 → cS → Prop) : Prop :=
  wpX9_advance F L r (fun u4 =>
    wpX7_mostOf x1 (fun r8 u8 =>
    (¬ (r8 = (-1 : Int32)) →
    (((u4.1 4 3) = (2 : Int32)) →
      (((u4.1 4 5) ≤ r8) →
        wpX9_advance u4.1 u4.2.1 u4.2.2 (fun u83 =>
          wpX7_readNumberOf_b86 u83.1 u83.2.1 u83.2.2 (u4.1 4 5) K)) ∧
      (¬ ((u4.1 4 5) ≤ r8) →
        wpX9_refuse u4.1 u4.2.1 u4.2.2 (2 : Int32) (u4.1 4 4) (fun u73 =>
          wpX7_readNumberOf_b86 u73.1 u73.2.1 u73.2.2 (u4.1 4 5) K))) ∧
    (¬ ((u4.1 4 3) = (2 : Int32)) →
      wpX9_refuse u4.1 u4.2.1 u4.2.2 (1 : Int32) (u4.1 4 4) (fun u50 =>
        wpX7_readNumberOf_b86 u50.1 u50.2.1 u50.2.2 (u4.1 4 5) K))) ∧
  ((r8 = (-1 : Int32)) →
    K (0 : Int32) (u4.1, u4.2.1, u4.2.2))))
def wpX7_readNumberOf (F : Nat → Nat → Int32) (L : Nat → Nat → Int64) (r : Nat → Nat → Nat) (x1 : Int32) (K : Int32 → cS → Prop) : Prop := wpX7_readNumberOf_b0 F L r x1 K
def wpX7_isTold_b2_body (B2 : (Nat → Nat → Int32) → (Nat → Nat → Int64) → (Nat → Nat → Nat) → Int32 → Int32 → Prop) (F : Nat → Nat → Int32) (L : Nat → Nat → Int64) (r : Nat → Nat → Nat) (x1 : Int32) (x2 : Int32) (K : Int32 → cS → Prop) : Prop :=
  (((F 10 2) ≤ x2) →
    K (0 : Int32) (F, L, r)) ∧
  (¬ ((F 10 2) ≤ x2) →
    vp_in x2 12 ∧ (¬ ((F 11 (ix x2)) = x1) →
      B2 F L r x1 (x2 + (1 : Int32))) ∧
    (((F 11 (ix x2)) = x1) →
      K (1 : Int32) (F, L, r)))
def wpX7_isTold_b2 (n_ : Nat) (F : Nat → Nat → Int32) (L : Nat → Nat → Int64) (r : Nat → Nat → Nat) (x1 : Int32) (x2 : Int32) (K : Int32 → cS → Prop) : Prop := match n_ with
  | 0 => False
  | n + 1 => wpX7_isTold_b2_body (fun F L r x1 x2 => wpX7_isTold_b2 n F L r x1 x2 K) F L r x1 x2 K
def wpX7_isTold_b0 (F : Nat → Nat → Int32) (L : Nat → Nat → Int64) (r : Nat → Nat → Nat) (x1 : Int32) (K : Int32 → cS → Prop) : Prop :=
  ∃ n, wpX7_isTold_b2 n F L r x1 (0 : Int32) K
def wpX7_isTold (F : Nat → Nat → Int32) (L : Nat → Nat → Int64) (r : Nat → Nat → Nat) (x1 : Int32) (K : Int32 → cS → Prop) : Prop := wpX7_isTold_b0 F L r x1 K
def wpX6_addCount_b54 (a0 : Nat) (F : Nat → Nat → Int32) (L : Nat → Nat → Int64) (r : Nat → Nat → Nat) (K : cS → Prop) : Prop :=
  K (F, L, r)
def wpX6_addCount_b33 (a0 : Nat) (F : Nat → Nat → Int32) (L : Nat → Nat → Int64) (r : Nat → Nat → Nat) (x1 : Int32) (x2 : Int32) (x3 : Int32) (K : cS → Prop) : Prop :=
  (¬ (x2 = 0) →
    wpX6_addCount_b54 a0 F L r K) ∧
  ((x2 = 0) →
    vp_in x3 30 ∧ ((x1 ≤ (F (a0 + 5) (ix x3))) →
      wpX6_addCount_b54 a0 F L r K) ∧
    (¬ (x1 ≤ (F (a0 + 5) (ix x3))) →
      vp_in x3 30 ∧ wpX6_addCount_b54 a0 (pt F (a0 + 5) (ix x3) x1) L r K))
def wpX6_addCount_b0 (a0 : Nat) (F : Nat → Nat → Int32) (L : Nat → Nat → Int64) (r : Nat → Nat → Nat) (x1 : Int32) (x2 : Int32) (K : cS → Prop) : Prop :=
  ((0 ≤ ((F a0 0) - (1 : Int32))) →
    ((x2 = 0) →
      wpX6_addCount_b33 a0 F L r x1 x2 ((F a0 0) - (1 : Int32)) K) ∧
    (¬ (x2 = 0) →
      vp_in ((F a0 0) - (1 : Int32)) 30 ∧ (((F (a0 + 6) (ix ((F a0 0) - (1 : Int32)))) ≤ x1) →
        wpX6_addCount_b33 a0 F L r x1 x2 ((F a0 0) - (1 : Int32)) K) ∧
      (¬ ((F (a0 + 6) (ix ((F a0 0) - (1 : Int32)))) ≤ x1) →
        vp_in ((F a0 0) - (1 : Int32)) 30 ∧ wpX6_addCount_b33 a0 (pt F (a0 + 6) (ix ((F a0 0) - (1 : Int32))) x1) L r x1 x2 ((F a0 0) - (1 : Int32)) K))) ∧
  (¬ (0 ≤ ((F a0 0) - (1 : Int32))) →
    K (F, L, r))
def wpX6_addCount (a0 : Nat) (F : Nat → Nat → Int32) (L : Nat → Nat → Int64) (r : Nat → Nat → Nat) (x1 : Int32) (x2 : Int32) (K : cS → Prop) : Prop := wpX6_addCount_b0 a0 F L r x1 x2 K
def wpX7_signOf_b0 (x0 : Int32) (x1 : Int32) (K : Int32 → Unit → Prop) : Prop :=
  (x0 = (3 : Int32) →
    K (10 : Int32) ()) ∧
  (x0 = (4 : Int32) →
    K (11 : Int32) ()) ∧
  (x0 = (5 : Int32) →
    K (12 : Int32) ()) ∧
  (x0 = (6 : Int32) →
    K ((13 : Int32) + x1) ()) ∧
  ((x0).toInt < 3 ∨ 6 < (x0).toInt →
    K x1 ())
def wpX7_signOf (x0 : Int32) (x1 : Int32) (K : Int32 → Unit → Prop) : Prop := wpX7_signOf_b0  x0 x1 K
def wpX6_addSign_b40 (a0 : Nat) (F : Nat → Nat → Int32) (L : Nat → Nat → Int64) (r : Nat → Nat → Nat) (K : cS → Prop) : Prop :=
  K (F, L, r)
def wpX6_addSign_b0 (a0 : Nat) (F : Nat → Nat → Int32) (L : Nat → Nat → Int64) (r : Nat → Nat → Nat) (x1 : Int32) (x2 : Int32) (K : cS → Prop) : Prop :=
  ((0 ≤ ((F a0 0) - (1 : Int32))) →
    vp_in ((F a0 0) - (1 : Int32)) 30 ∧ vp_in ((F a0 0) - (1 : Int32)) 30 ∧ (¬ (x2 = 0) →
      wpX6_addSign_b40 a0 (pt F (a0 + 3) (ix ((F a0 0) - (1 : Int32))) ((F (a0 + 3) (ix ((F a0 0) - (1 : Int32)))) ||| (jshl (1 : Int32) x1))) L r K) ∧
    ((x2 = 0) →
      vp_in ((F a0 0) - (1 : Int32)) 30 ∧ vp_in ((F a0 0) - (1 : Int32)) 30 ∧ wpX6_addSign_b40 a0 (pt (pt F (a0 + 3) (ix ((F a0 0) - (1 : Int32))) ((F (a0 + 3) (ix ((F a0 0) - (1 : Int32)))) ||| (jshl (1 : Int32) x1))) (a0 + 4) (ix ((F a0 0) - (1 : Int32))) (((pt F (a0 + 3) (ix ((F a0 0) - (1 : Int32))) ((F (a0 + 3) (ix ((F a0 0) - (1 : Int32)))) ||| (jshl (1 : Int32) x1))) (a0 + 4) (ix ((F a0 0) - (1 : Int32)))) ||| (jshl (1 : Int32) x1))) L r K)) ∧
  (¬ (0 ≤ ((F a0 0) - (1 : Int32))) →
    K (F, L, r))
def wpX6_addSign (a0 : Nat) (F : Nat → Nat → Int32) (L : Nat → Nat → Int64) (r : Nat → Nat → Nat) (x1 : Int32) (x2 : Int32) (K : cS → Prop) : Prop := wpX6_addSign_b0 a0 F L r x1 x2 K
def wpX7_takeTest_b81 (F : Nat → Nat → Int32) (L : Nat → Nat → Int64) (r : Nat → Nat → Nat) (K : cS → Prop) : Prop :=
  K (F, L, r)
def wpX7_takeTest_b0 (F : Nat → Nat → Int32) (L : Nat → Nat → Int64) (r : Nat → Nat → Nat) (x1 : Int32) (x2 : Int32) (x3 : Int32) (x4 : Int32) (K : cS → Prop) : Prop :=
  wpX7_isTold F L r ((x1 * (128 : Int32)) + x2) (fun r12 u12 =>
    ((r12 = 0) →
    vp_in (u12.1 10 2) 12 ∧ (¬ (x1 = (7 : Int32)) →
      wpX7_signOf x1 x2 (fun r74 u74 =>
        kd (u12.2.2 10 3) = 6 ∧ wpX6_addSign (u12.2.2 10 3) (pt (pt u12.1 11 (ix (u12.1 10 2)) ((x1 * (128 : Int32)) + x2)) 10 2 (((pt u12.1 11 (ix (u12.1 10 2)) ((x1 * (128 : Int32)) + x2)) 10 2) + (1 : Int32))) u12.2.1 u12.2.2 r74 x3 (fun u78 =>
        wpX7_takeTest_b81 u78.1 u78.2.1 u78.2.2 K))) ∧
    ((x1 = (7 : Int32)) →
      kd (u12.2.2 10 3) = 6 ∧ wpX6_addCount (u12.2.2 10 3) (pt (pt u12.1 11 (ix (u12.1 10 2)) ((x1 * (128 : Int32)) + x2)) 10 2 (((pt u12.1 11 (ix (u12.1 10 2)) ((x1 * (128 : Int32)) + x2)) 10 2) + (1 : Int32))) u12.2.1 u12.2.2 x2 x3 (fun u62 =>
        wpX7_takeTest_b81 u62.1 u62.2.1 u62.2.2 K))) ∧
  (¬ (r12 = 0) →
    wpX9_refuse u12.1 u12.2.1 u12.2.2 (3 : Int32) x4 (fun u25 =>
      K (u25.1, u25.2.1, u25.2.2))))
def wpX7_takeTest (F : Nat → Nat → Int32) (L : Nat → Nat → Int64) (r : Nat → Nat → Nat) (x1 : Int32) (x2 : Int32) (x3 : Int32) (x4 : Int32) (K : cS → Prop) : Prop := wpX7_takeTest_b0 F L r x1 x2 x3 x4 K
def wpX7_readTest_b151 (F : Nat → Nat → Int32) (L : Nat → Nat → Int64) (r : Nat → Nat → Nat) (K : cS → Prop) : Prop :=
  K (F, L, r)
def wpX7_readTest_b86 (F : Nat → Nat → Int32) (L : Nat → Nat → Int64) (r : Nat → Nat → Nat) (x1 : Int32) (K : cS → Prop) : Prop :=
  wpX7_isTest (F 4 6) (fun r103 u103 =>
    (¬ (r103 = 0) →
    wpX7_readNumberOf F L r (F 4 6) (fun r127 u127 =>
      (¬ ((u127.1 4 1) = 0) →
      wpX7_readTest_b151 u127.1 u127.2.1 u127.2.2 K) ∧
    (((u127.1 4 1) = 0) →
      wpX7_takeTest u127.1 u127.2.1 u127.2.2 (F 4 6) r127 x1 (F 4 4) (fun u148 =>
        wpX7_readTest_b151 u148.1 u148.2.1 u148.2.2 K)))) ∧
  ((r103 = 0) →
    wpX9_refuse F L r (1 : Int32) (F 4 4) (fun u121 =>
      K (u121.1, u121.2.1, u121.2.2))))
def wpX7_readTest_b50 (F : Nat → Nat → Int32) (L : Nat → Nat → Int64) (r : Nat → Nat → Nat) (x1 : Int32) (K : cS → Prop) : Prop :=
  (((F 10 2) < (12 : Int32)) →
    ((x1 = 0) →
      wpX7_readTest_b86 F L r x1 K) ∧
    (¬ (x1 = 0) →
      wpX9_advance F L r (fun u83 =>
        wpX7_readTest_b86 u83.1 u83.2.1 u83.2.2 x1 K))) ∧
  (¬ ((F 10 2) < (12 : Int32)) →
    wpX9_refuse F L r (2 : Int32) (F 4 4) (fun u71 =>
      K (u71.1, u71.2.1, u71.2.2)))
def wpX7_readTest_b16 (F : Nat → Nat → Int32) (L : Nat → Nat → Int64) (r : Nat → Nat → Nat) (k0 : Int32) (K : cS → Prop) : Prop :=
  (¬ (k0 = 0) →
    wpX7_readTest_b50 F L r k0 K) ∧
  ((k0 = 0) →
    wpX7_isTest (F 4 6) (fun r28 u28 =>
      (¬ (r28 = 0) →
      wpX7_readTest_b50 F L r k0 K) ∧
    ((r28 = 0) →
      wpX9_refuse F L r (1 : Int32) (F 4 4) (fun u46 =>
        K (u46.1, u46.2.1, u46.2.2)))))
def wpX7_readTest_b0 (F : Nat → Nat → Int32) (L : Nat → Nat → Int64) (r : Nat → Nat → Nat) (K : cS → Prop) : Prop :=
  (¬ ((F 4 6) = (2 : Int32)) →
    wpX7_readTest_b16 F L r (0 : Int32) K) ∧
  (((F 4 6) = (2 : Int32)) →
    wpX7_readTest_b16 F L r (1 : Int32) K)
def wpX7_readTest (F : Nat → Nat → Int32) (L : Nat → Nat → Int64) (r : Nat → Nat → Nat) (K : cS → Prop) : Prop := wpX7_readTest_b0 F L r K
def wpX7_readTests_b44 (F : Nat → Nat → Int32) (L : Nat → Nat → Int64) (r : Nat → Nat → Nat) (K : cS → Prop) : Prop :=
  K (F, L, r)
def wpX7_readTests_b34 (B2 : (Nat → Nat → Int32) → (Nat → Nat → Int64) → (Nat → Nat → Nat) → Int32 → Prop) (F : Nat → Nat → Int32) (L : Nat → Nat → Int64) (r : Nat → Nat → Nat) (x1 : Int32) (K : cS → Prop) : Prop :=
  wpX7_readTest F L r (fun u35 =>
    B2 u35.1 u35.2.1 u35.2.2 (x1 + (1 : Int32)))
def wpX7_readTests_b2_body (B2 : (Nat → Nat → Int32) → (Nat → Nat → Int64) → (Nat → Nat → Nat) → Int32 → Prop) (F : Nat → Nat → Int32) (L : Nat → Nat → Int64) (r : Nat → Nat → Nat) (x1 : Int32) (K : cS → Prop) : Prop :=
  (((12 : Int32) < x1) →
    wpX7_readTests_b44 F L r K) ∧
  (¬ ((12 : Int32) < x1) →
    (¬ ((F 4 1) = 0) →
      wpX7_readTests_b44 F L r K) ∧
    (((F 4 1) = 0) →
      ((x1 ≤ 0) →
        wpX7_readTests_b34 B2 F L r x1 K) ∧
      (¬ (x1 ≤ 0) →
        (¬ ((F 4 6) = (1 : Int32)) →
          wpX7_readTests_b34 B2 F L r x1 K) ∧
        (((F 4 6) = (1 : Int32)) →
          K (F, L, r)))))
def wpX7_readTests_b2 (n_ : Nat) (F : Nat → Nat → Int32) (L : Nat → Nat → Int64) (r : Nat → Nat → Nat) (x1 : Int32) (K : cS → Prop) : Prop := match n_ with
  | 0 => False
  | n + 1 => wpX7_readTests_b2_body (fun F L r x1 => wpX7_readTests_b2 n F L r x1 K) F L r x1 K
def wpX7_readTests_b0 (F : Nat → Nat → Int32) (L : Nat → Nat → Int64) (r : Nat → Nat → Nat) (K : cS → Prop) : Prop :=
  ∃ n, wpX7_readTests_b2 n F L r (0 : Int32) K
def wpX7_readTests (F : Nat → Nat → Int32) (L : Nat → Nat → Int64) (r : Nat → Nat → Nat) (K : cS → Prop) : Prop := wpX7_readTests_b0 F L r K
def wpX9_isSign_b21 (F : Nat → Nat → Int32) (L : Nat → Nat → Int64) (r : Nat → Nat → Nat) (k0 : Int32) (K : Int32 → cS → Prop) : Prop :=
  isB k0 ∧ K k0 (F, L, r)
def wpX9_isSign_b20 (F : Nat → Nat → Int32) (L : Nat → Nat → Int64) (r : Nat → Nat → Nat) (K : Int32 → cS → Prop) : Prop :=
  wpX9_isSign_b21 F L r (0 : Int32) K
def wpX9_isSign_b0 (F : Nat → Nat → Int32) (L : Nat → Nat → Int64) (r : Nat → Nat → Nat) (x1 : Int32) (K : Int32 → cS → Prop) : Prop :=
  (¬ ((F 4 3) = (3 : Int32)) →
    wpX9_isSign_b20 F L r K) ∧
  (((F 4 3) = (3 : Int32)) →
    (¬ ((F 4 5) = x1) →
      wpX9_isSign_b20 F L r K) ∧
    (((F 4 5) = x1) →
      wpX9_isSign_b21 F L r (1 : Int32) K))
def wpX9_isSign (F : Nat → Nat → Int32) (L : Nat → Nat → Int64) (r : Nat → Nat → Nat) (x1 : Int32) (K : Int32 → cS → Prop) : Prop := wpX9_isSign_b0 F L r x1 K
def wpX7_isAct_b17 (k0 : Int32) (K : Int32 → Unit → Prop) : Prop :=
  isB k0 ∧ K k0 ()
def wpX7_isAct_b16 (K : Int32 → Unit → Prop) : Prop :=
  wpX7_isAct_b17 (0 : Int32) K
def wpX7_isAct_b0 (x0 : Int32) (K : Int32 → Unit → Prop) : Prop :=
  ((x0 < (8 : Int32)) →
    wpX7_isAct_b16  K) ∧
  (¬ (x0 < (8 : Int32)) →
    (((19 : Int32) < x0) →
      wpX7_isAct_b16  K) ∧
    (¬ ((19 : Int32) < x0) →
      wpX7_isAct_b17 (1 : Int32) K))
def wpX7_isAct (x0 : Int32) (K : Int32 → Unit → Prop) : Prop := wpX7_isAct_b0  x0 K
def wpX6_actOf_b0 (x0 : Int32) (x1 : Int32) (K : Int32 → Unit → Prop) : Prop :=
  K ((jshl x0 (4 : Int32)) ||| x1) ()
def wpX6_actOf (x0 : Int32) (x1 : Int32) (K : Int32 → Unit → Prop) : Prop := wpX6_actOf_b0  x0 x1 K
def wpX6_addAct_b27 (a0 : Nat) (F : Nat → Nat → Int32) (L : Nat → Nat → Int64) (r : Nat → Nat → Nat) (K : cS → Prop) : Prop :=
  K (F, L, r)
def wpX6_addAct_b0 (a0 : Nat) (F : Nat → Nat → Int32) (L : Nat → Nat → Int64) (r : Nat → Nat → Nat) (x1 : Int32) (K : cS → Prop) : Prop :=
  ((((F a0 0) - (1 : Int32)) < 0) →
    wpX6_addAct_b27 a0 F L r K) ∧
  (¬ (((F a0 0) - (1 : Int32)) < 0) →
    vp_in ((F a0 0) - (1 : Int32)) 30 ∧ (((F (a0 + 2) (ix ((F a0 0) - (1 : Int32)))) < ((F a0 0) * (12 : Int32))) →
      vp_in ((F a0 0) - (1 : Int32)) 30 ∧ vp_in (F (a0 + 2) (ix ((F a0 0) - (1 : Int32)))) 360 ∧ vp_in ((F a0 0) - (1 : Int32)) 30 ∧ vp_in ((F a0 0) - (1 : Int32)) 30 ∧ K (pt (pt F (a0 + 1) (ix (F (a0 + 2) (ix ((F a0 0) - (1 : Int32))))) x1) (a0 + 2) (ix ((F a0 0) - (1 : Int32))) (((pt F (a0 + 1) (ix (F (a0 + 2) (ix ((F a0 0) - (1 : Int32))))) x1) (a0 + 2) (ix ((F a0 0) - (1 : Int32)))) + (1 : Int32)), L, r)) ∧
    (¬ ((F (a0 + 2) (ix ((F a0 0) - (1 : Int32)))) < ((F a0 0) * (12 : Int32))) →
      wpX6_addAct_b27 a0 F L r K))
def wpX6_addAct (a0 : Nat) (F : Nat → Nat → Int32) (L : Nat → Nat → Int64) (r : Nat → Nat → Nat) (x1 : Int32) (K : cS → Prop) : Prop := wpX6_addAct_b0 a0 F L r x1 K
def wpX7_readAct_b81 (F : Nat → Nat → Int32) (L : Nat → Nat → Int64) (r : Nat → Nat → Nat) (K : cS → Prop) : Prop :=
  K (F, L, r)
def wpX7_readAct_b0 (F : Nat → Nat → Int32) (L : Nat → Nat → Int64) (r : Nat → Nat → Nat) (x1 : Int32) (K : cS → Prop) : Prop :=
  wpX7_isAct (F 4 6) (fun r9 u9 =>
    (¬ (r9 = 0) →
    ((x1 < (12 : Int32)) →
      wpX7_readNumberOf F L r (F 4 6) (fun r55 u55 =>
        (¬ ((u55.1 4 1) = 0) →
        wpX7_readAct_b81 u55.1 u55.2.1 u55.2.2 K) ∧
      (((u55.1 4 1) = 0) →
        wpX6_actOf (F 4 6) r55 (fun r75 u75 =>
          kd (u55.2.2 10 3) = 6 ∧ wpX6_addAct (u55.2.2 10 3) u55.1 u55.2.1 u55.2.2 r75 (fun u78 =>
          wpX7_readAct_b81 u78.1 u78.2.1 u78.2.2 K))))) ∧
    (¬ (x1 < (12 : Int32)) →
      wpX9_refuse F L r (2 : Int32) (F 4 4) (fun u49 =>
        K (u49.1, u49.2.1, u49.2.2)))) ∧
  ((r9 = 0) →
    wpX9_refuse F L r (1 : Int32) (F 4 4) (fun u27 =>
      K (u27.1, u27.2.1, u27.2.2))))
def wpX7_readAct (F : Nat → Nat → Int32) (L : Nat → Nat → Int64) (r : Nat → Nat → Nat) (x1 : Int32) (K : cS → Prop) : Prop := wpX7_readAct_b0 F L r x1 K
def wpX7_readActs_b46 (F : Nat → Nat → Int32) (L : Nat → Nat → Int64) (r : Nat → Nat → Nat) (K : cS → Prop) : Prop :=
  K (F, L, r)
def wpX7_readActs_b35 (B2 : (Nat → Nat → Int32) → (Nat → Nat → Int64) → (Nat → Nat → Nat) → Int32 → Prop) (F : Nat → Nat → Int32) (L : Nat → Nat → Int64) (r : Nat → Nat → Nat) (x1 : Int32) (K : cS → Prop) : Prop :=
  wpX7_readAct F L r x1 (fun u37 =>
    B2 u37.1 u37.2.1 u37.2.2 (x1 + (1 : Int32)))
def wpX7_readActs_b2_body (B2 : (Nat → Nat → Int32) → (Nat → Nat → Int64) → (Nat → Nat → Nat) → Int32 → Prop) (F : Nat → Nat → Int32) (L : Nat → Nat → Int64) (r : Nat → Nat → Nat) (x1 : Int32) (K : cS → Prop) : Prop :=
  (((12 : Int32) < x1) →
    wpX7_readActs_b46 F L r K) ∧
  (¬ ((12 : Int32) < x1) →
    (¬ ((F 4 1) = 0) →
      wpX7_readActs_b46 F L r K) ∧
    (((F 4 1) = 0) →
      ((x1 ≤ 0) →
        wpX7_readActs_b35 B2 F L r x1 K) ∧
      (¬ (x1 ≤ 0) →
        wpX9_isSign F L r (59 : Int32) (fun r28 u28 =>
          ((r28 = 0) →
          wpX7_readActs_b35 B2 u28.1 u28.2.1 u28.2.2 x1 K) ∧
        (¬ (r28 = 0) →
          K (u28.1, u28.2.1, u28.2.2))))))
def wpX7_readActs_b2 (n_ : Nat) (F : Nat → Nat → Int32) (L : Nat → Nat → Int64) (r : Nat → Nat → Nat) (x1 : Int32) (K : cS → Prop) : Prop := match n_ with
  | 0 => False
  | n + 1 => wpX7_readActs_b2_body (fun F L r x1 => wpX7_readActs_b2 n F L r x1 K) F L r x1 K
def wpX7_readActs_b0 (F : Nat → Nat → Int32) (L : Nat → Nat → Int64) (r : Nat → Nat → Nat) (K : cS → Prop) : Prop :=
  ∃ n, wpX7_readActs_b2 n F L r (0 : Int32) K
def wpX7_readActs (F : Nat → Nat → Int32) (L : Nat → Nat → Int64) (r : Nat → Nat → Nat) (K : cS → Prop) : Prop := wpX7_readActs_b0 F L r K
def wpX7_readLine_b140 (F : Nat → Nat → Int32) (L : Nat → Nat → Int64) (r : Nat → Nat → Nat) (K : cS → Prop) : Prop :=
  K (F, L, r)
def wpX7_readLine_b123 (F : Nat → Nat → Int32) (L : Nat → Nat → Int64) (r : Nat → Nat → Nat) (K : cS → Prop) : Prop :=
  (¬ ((F 4 1) = 0) →
    wpX7_readLine_b140 F L r K) ∧
  (((F 4 1) = 0) →
    wpX9_advance F L r (fun u137 =>
      wpX7_readLine_b140 u137.1 u137.2.1 u137.2.2 K))
def wpX7_readLine_b102 (F : Nat → Nat → Int32) (L : Nat → Nat → Int64) (r : Nat → Nat → Nat) (K : cS → Prop) : Prop :=
  (¬ ((F 4 1) = 0) →
    wpX7_readLine_b123 F L r K) ∧
  (((F 4 1) = 0) →
    wpX9_advance F L r (fun u116 =>
      wpX7_readActs u116.1 u116.2.1 u116.2.2 (fun u120 =>
      wpX7_readLine_b123 u120.1 u120.2.1 u120.2.2 K)))
def wpX7_readLine_b47 (F : Nat → Nat → Int32) (L : Nat → Nat → Int64) (r : Nat → Nat → Nat) (x1 : Int32) (K : cS → Prop) : Prop :=
  kd (r 10 3) = 6 ∧ (((F (r 10 3) 0) < (30 : Int32)) →
    kd (r 10 3) = 6 ∧ wpX6_openLine (r 10 3) F L r (fun u79 =>
      ((x1 = 0) →
      wpX7_readLine_b102 (pt u79.1 10 2 (0 : Int32)) u79.2.1 u79.2.2 K) ∧
    (¬ (x1 = 0) →
      wpX9_advance (pt u79.1 10 2 (0 : Int32)) u79.2.1 u79.2.2 (fun u95 =>
        wpX7_readTests u95.1 u95.2.1 u95.2.2 (fun u99 =>
        wpX7_readLine_b102 u99.1 u99.2.1 u99.2.2 K))))) ∧
  (¬ ((F (r 10 3) 0) < (30 : Int32)) →
    wpX9_refuse F L r (2 : Int32) (F 4 4) (fun u71 =>
      K (u71.1, u71.2.1, u71.2.2)))
def wpX7_readLine_b15 (F : Nat → Nat → Int32) (L : Nat → Nat → Int64) (r : Nat → Nat → Nat) (k0 : Int32) (K : cS → Prop) : Prop :=
  (¬ (k0 = 0) →
    wpX7_readLine_b47 F L r k0 K) ∧
  ((k0 = 0) →
    (((F 4 6) = (1 : Int32)) →
      wpX7_readLine_b47 F L r k0 K) ∧
    (¬ ((F 4 6) = (1 : Int32)) →
      wpX9_refuse F L r (1 : Int32) (F 4 4) (fun u43 =>
        K (u43.1, u43.2.1, u43.2.2))))
def wpX7_readLine_b0 (F : Nat → Nat → Int32) (L : Nat → Nat → Int64) (r : Nat → Nat → Nat) (K : cS → Prop) : Prop :=
  (¬ ((F 4 6) = 0) →
    wpX7_readLine_b15 F L r (0 : Int32) K) ∧
  (((F 4 6) = 0) →
    wpX7_readLine_b15 F L r (1 : Int32) K)
def wpX7_readLine (F : Nat → Nat → Int32) (L : Nat → Nat → Int64) (r : Nat → Nat → Nat) (K : cS → Prop) : Prop := wpX7_readLine_b0 F L r K
def wpX7_read_b71 (F : Nat → Nat → Int32) (L : Nat → Nat → Int64) (r : Nat → Nat → Nat) (k0 : Int32) (K : Int32 → cS → Prop) : Prop :=
  isB k0 ∧ K k0 (F, L, r)
def wpX7_read_b56 (F : Nat → Nat → Int32) (L : Nat → Nat → Int64) (r : Nat → Nat → Nat) (K : Int32 → cS → Prop) : Prop :=
  (¬ ((F 4 1) = 0) →
    wpX7_read_b71 F L r (0 : Int32) K) ∧
  (((F 4 1) = 0) →
    wpX7_read_b71 F L r (1 : Int32) K)
def wpX7_read_b20_body (B20 : (Nat → Nat → Int32) → (Nat → Nat → Int64) → (Nat → Nat → Nat) → Int32 → Prop) (F : Nat → Nat → Int32) (L : Nat → Nat → Int64) (r : Nat → Nat → Nat) (x2 : Int32) (K : Int32 → cS → Prop) : Prop :=
  (((30 : Int32) < x2) →
    wpX7_read_b56 F L r K) ∧
  (¬ ((30 : Int32) < x2) →
    (¬ ((F 4 1) = 0) →
      wpX7_read_b56 F L r K) ∧
    (((F 4 1) = 0) →
      (((F 4 3) = 0) →
        wpX7_read_b56 F L r K) ∧
      (¬ ((F 4 3) = 0) →
        wpX7_readLine F L r (fun u47 =>
          B20 u47.1 u47.2.1 u47.2.2 (x2 + (1 : Int32))))))
def wpX7_read_b20 (n_ : Nat) (F : Nat → Nat → Int32) (L : Nat → Nat → Int64) (r : Nat → Nat → Nat) (x2 : Int32) (K : Int32 → cS → Prop) : Prop := match n_ with
  | 0 => False
  | n + 1 => wpX7_read_b20_body (fun F L r x2 => wpX7_read_b20 n F L r x2 K) F L r x2 K
def wpX7_read_b0 (F : Nat → Nat → Int32) (L : Nat → Nat → Int64) (r : Nat → Nat → Nat) (x1 : Int32) (K : Int32 → cS → Prop) : Prop :=
  kd (r 10 3) = 6 ∧ wpX9_open 0 (pt F (r 10 3) 0 (0 : Int32)) L r x1 (fun u15 =>
    ∃ n, wpX7_read_b20 n u15.1 u15.2.1 u15.2.2 (0 : Int32) K)
def wpX7_read (F : Nat → Nat → Int32) (L : Nat → Nat → Int64) (r : Nat → Nat → Nat) (x1 : Int32) (K : Int32 → cS → Prop) : Prop := wpX7_read_b0 F L r x1 K
def wpX7_exchange_b0 (a1 : Nat) (F : Nat → Nat → Int32) (L : Nat → Nat → Int64) (r : Nat → Nat → Nat) (K : Nat → cS → Prop) : Prop :=
  K (r 10 3) (F, L, ptN r 10 3 a1)
def wpX7_exchange (a1 : Nat) (F : Nat → Nat → Int32) (L : Nat → Nat → Int64) (r : Nat → Nat → Nat) (K : Nat → cS → Prop) : Prop := wpX7_exchange_b0 a1 F L r K
def wpX8_forget_b0 (F : Nat → Nat → Int32) (L : Nat → Nat → Int64) (r : Nat → Nat → Nat) (K : cS → Prop) : Prop :=
  K (pt (pt F 96 6 (0 : Int32)) 96 7 (0 : Int32), L, r)
def wpX8_forget (F : Nat → Nat → Int32) (L : Nat → Nat → Int64) (r : Nat → Nat → Nat) (K : cS → Prop) : Prop := wpX8_forget_b0 F L r K
def wpX10_rules_b15 (F : Nat → Nat → Int32) (L : Nat → Nat → Int64) (r : Nat → Nat → Nat) (K : Int32 → cS → Prop) : Prop :=
  K (-2 : Int32) (F, L, r)
def wpX10_rules_b0 (F : Nat → Nat → Int32) (L : Nat → Nat → Int64) (r : Nat → Nat → Nat) (x1 : Int32) (K : Int32 → cS → Prop) : Prop :=
  ((x1 < 0) →
    wpX10_rules_b15 F L r K) ∧
  (¬ (x1 < 0) →
    ((x1 ≤ (F 4 0)) →
      wpX7_read F L r x1 (fun r23 u23 =>
        (¬ (r23 = 0) →
        kd (u23.2.2 0 3) = 6 ∧ wpX7_exchange (u23.2.2 0 3) u23.1 u23.2.1 u23.2.2 (fun r40 u40 =>
          wpX8_forget (pt u40.1 74 6 (-1 : Int32)) u40.2.1 (ptN u40.2.2 0 3 r40) (fun u58 =>
          kd (u58.2.2 0 3) = 6 ∧ K (u58.1 (u58.2.2 0 3) 0) (u58.1, u58.2.1, u58.2.2)))) ∧
      ((r23 = 0) →
        K (-1 : Int32) (u23.1, u23.2.1, u23.2.2)))) ∧
    (¬ (x1 ≤ (F 4 0)) →
      wpX10_rules_b15 F L r K))
def wpX10_rules (F : Nat → Nat → Int32) (L : Nat → Nat → Int64) (r : Nat → Nat → Nat) (x1 : Int32) (K : Int32 → cS → Prop) : Prop := wpX10_rules_b0 F L r x1 K
def wpX4_clear_b55 (a0 : Nat) (F : Nat → Nat → Int32) (L : Nat → Nat → Int64) (r : Nat → Nat → Nat) (K : cS → Prop) : Prop :=
  K (F, L, r)
def wpX4_clear_b17_body (B17 : (Nat → Nat → Int32) → (Nat → Nat → Int64) → (Nat → Nat → Nat) → Int32 → Prop) (a0 : Nat) (F : Nat → Nat → Int32) (L : Nat → Nat → Int64) (r : Nat → Nat → Nat) (x1 : Int32) (K : cS → Prop) : Prop :=
  (((24 : Int32) ≤ x1) →
    wpX4_clear_b55 a0 F L r K) ∧
  (¬ ((24 : Int32) ≤ x1) →
    (((24 : Int32) ≤ x1) →
      wpX4_clear_b55 a0 F L r K) ∧
    (¬ ((24 : Int32) ≤ x1) →
      vp_in x1 24 ∧ vp_in x1 24 ∧ B17 (pt (pt F (a0 + 2) (ix x1) (0 : Int32)) (a0 + 3) (ix x1) (0 : Int32)) L r (x1 + (1 : Int32))))
def wpX4_clear_b17 (a0 : Nat) (n_ : Nat) (F : Nat → Nat → Int32) (L : Nat → Nat → Int64) (r : Nat → Nat → Nat) (x1 : Int32) (K : cS → Prop) : Prop := match n_ with
  | 0 => False
  | n + 1 => wpX4_clear_b17_body (fun F L r x1 => wpX4_clear_b17 a0 n F L r x1 K) a0 F L r x1 K
def wpX4_clear_b0 (a0 : Nat) (F : Nat → Nat → Int32) (L : Nat → Nat → Int64) (r : Nat → Nat → Nat) (K : cS → Prop) : Prop :=
  ∃ n, wpX4_clear_b17 a0 n (pt (pt (pt F a0 0 (0 : Int32)) a0 1 (0 : Int32)) a0 2 (0 : Int32)) L r (0 : Int32) K
def wpX4_clear (a0 : Nat) (F : Nat → Nat → Int32) (L : Nat → Nat → Int64) (r : Nat → Nat → Nat) (K : cS → Prop) : Prop := wpX4_clear_b0 a0 F L r K
def wpX5_isName_b37 (F : Nat → Nat → Int32) (L : Nat → Nat → Int64) (r : Nat → Nat → Nat) (k0 : Int32) (K : Int32 → cS → Prop) : Prop :=
  isB k0 ∧ K k0 (F, L, r)
def wpX5_isName_b36 (F : Nat → Nat → Int32) (L : Nat → Nat → Int64) (r : Nat → Nat → Nat) (K : Int32 → cS → Prop) : Prop :=
  wpX5_isName_b37 F L r (0 : Int32) K
def wpX5_isName_b0 (F : Nat → Nat → Int32) (L : Nat → Nat → Int64) (r : Nat → Nat → Nat) (K : Int32 → cS → Prop) : Prop :=
  (¬ ((F 4 3) = (1 : Int32)) →
    wpX5_isName_b36 F L r K) ∧
  (((F 4 3) = (1 : Int32)) →
    (¬ ((F 4 6) = (-1 : Int32)) →
      wpX5_isName_b36 F L r K) ∧
    (((F 4 6) = (-1 : Int32)) →
      (((F 4 5) = 0) →
        wpX5_isName_b36 F L r K) ∧
      (¬ ((F 4 5) = 0) →
        wpX5_isName_b37 F L r (1 : Int32) K)))
def wpX5_isName (F : Nat → Nat → Int32) (L : Nat → Nat → Int64) (r : Nat → Nat → Nat) (K : Int32 → cS → Prop) : Prop := wpX5_isName_b0 F L r K
def wpX5_relayOf_b2_body (B2 : (Nat → Nat → Int32) → (Nat → Nat → Int64) → (Nat → Nat → Nat) → Int32 → Int32 → Prop) (F : Nat → Nat → Int32) (L : Nat → Nat → Int64) (r : Nat → Nat → Nat) (x1 : Int32) (x2 : Int32) (K : Int32 → cS → Prop) : Prop :=
  kd (r 12 5) = 4 ∧ (((F (r 12 5) 0) ≤ x2) →
    K (-1 : Int32) (F, L, r)) ∧
  (¬ ((F (r 12 5) 0) ≤ x2) →
    vp_in x2 20 ∧ (¬ ((F 13 (ix x2)) = x1) →
      B2 F L r x1 (x2 + (1 : Int32))) ∧
    (((F 13 (ix x2)) = x1) →
      K x2 (F, L, r)))
def wpX5_relayOf_b2 (n_ : Nat) (F : Nat → Nat → Int32) (L : Nat → Nat → Int64) (r : Nat → Nat → Nat) (x1 : Int32) (x2 : Int32) (K : Int32 → cS → Prop) : Prop := match n_ with
  | 0 => False
  | n + 1 => wpX5_relayOf_b2_body (fun F L r x1 x2 => wpX5_relayOf_b2 n F L r x1 x2 K) F L r x1 x2 K
def wpX5_relayOf_b0 (F : Nat → Nat → Int32) (L : Nat → Nat → Int64) (r : Nat → Nat → Nat) (x1 : Int32) (K : Int32 → cS → Prop) : Prop :=
  ∃ n, wpX5_relayOf_b2 n F L r x1 (0 : Int32) K
def wpX5_relayOf (F : Nat → Nat → Int32) (L : Nat → Nat → Int64) (r : Nat → Nat → Nat) (x1 : Int32) (K : Int32 → cS → Prop) : Prop := wpX5_relayOf_b0 F L r x1 K
def wpX5_readRelay_b0 (F : Nat → Nat → Int32) (L : Nat → Nat → Int64) (r : Nat → Nat → Nat) (K : Int32 → cS → Prop) : Prop :=
  kd (r 12 5) = 4 ∧ (((F (r 12 5) 0) < (20 : Int32)) →
    wpX9_advance F L r (fun u33 =>
      wpX5_isName u33.1 u33.2.1 u33.2.2 (fun r37 u37 =>
      (¬ (r37 = 0) →
      wpX5_relayOf u37.1 u37.2.1 u37.2.2 (u37.1 4 5) (fun r68 u68 =>
        ((r68 = (-1 : Int32)) →
        kd (u68.2.2 12 5) = 4 ∧ vp_in (u68.1 (u68.2.2 12 5) 0) 20 ∧ kd (u68.2.2 12 5) = 4 ∧ kd (u68.2.2 12 5) = 4 ∧ K (((pt (pt u68.1 13 (ix (u68.1 (u68.2.2 12 5) 0)) (u68.1 4 5)) (u68.2.2 12 5) 0 (((pt u68.1 13 (ix (u68.1 (u68.2.2 12 5) 0)) (u68.1 4 5)) (u68.2.2 12 5) 0) + (1 : Int32))) (u68.2.2 12 5) 0) - (1 : Int32)) (pt (pt u68.1 13 (ix (u68.1 (u68.2.2 12 5) 0)) (u68.1 4 5)) (u68.2.2 12 5) 0 (((pt u68.1 13 (ix (u68.1 (u68.2.2 12 5) 0)) (u68.1 4 5)) (u68.2.2 12 5) 0) + (1 : Int32)), u68.2.1, u68.2.2)) ∧
      (¬ (r68 = (-1 : Int32)) →
        wpX9_refuse u68.1 u68.2.1 u68.2.2 (3 : Int32) (u68.1 4 4) (fun u87 =>
          K (-1 : Int32) (u87.1, u87.2.1, u87.2.2))))) ∧
    ((r37 = 0) →
      wpX9_refuse u37.1 u37.2.1 u37.2.2 (1 : Int32) (u37.1 4 4) (fun u55 =>
        K (-1 : Int32) (u55.1, u55.2.1, u55.2.2)))))) ∧
  (¬ ((F (r 12 5) 0) < (20 : Int32)) →
    wpX9_refuse F L r (2 : Int32) (F 4 4) (fun u24 =>
      K (-1 : Int32) (u24.1, u24.2.1, u24.2.2)))
def wpX5_readRelay (F : Nat → Nat → Int32) (L : Nat → Nat → Int64) (r : Nat → Nat → Nat) (K : Int32 → cS → Prop) : Prop := wpX5_readRelay_b0 F L r K
def wpX4_placeOfOutput_b0 (x0 : Int32) (K : Int32 → Unit → Prop) : Prop :=
  K (((20 : Int32) + x0) - (1 : Int32)) ()
def wpX4_placeOfOutput (x0 : Int32) (K : Int32 → Unit → Prop) : Prop := wpX4_placeOfOutput_b0  x0 K
def wpX5_readTarget_b27 (F : Nat → Nat → Int32) (L : Nat → Nat → Int64) (r : Nat → Nat → Nat) (K : Int32 → cS → Prop) : Prop :=
  wpX9_refuse F L r (1 : Int32) (F 4 4) (fun u39 =>
    K (-1 : Int32) (u39.1, u39.2.1, u39.2.2))
def wpX5_readTarget_b0 (F : Nat → Nat → Int32) (L : Nat → Nat → Int64) (r : Nat → Nat → Nat) (K : Int32 → cS → Prop) : Prop :=
  (¬ ((F 4 6) = 0) →
    (((F 4 6) < (1 : Int32)) →
      wpX5_readTarget_b27 F L r K) ∧
    (¬ ((F 4 6) < (1 : Int32)) →
      (((F 4 6) ≤ (4 : Int32)) →
        ((((jshr (F 12 6) (F 4 6)) &&& (1 : Int32)) = 0) →
          wpX4_placeOfOutput (F 4 6) (fun r85 u85 =>
            K r85 (pt F 12 6 ((F 12 6) ||| (jshl (1 : Int32) (F 4 6))), L, r))) ∧
        (¬ (((jshr (F 12 6) (F 4 6)) &&& (1 : Int32)) = 0) →
          wpX9_refuse F L r (3 : Int32) (F 4 4) (fun u67 =>
            K (-1 : Int32) (u67.1, u67.2.1, u67.2.2)))) ∧
      (¬ ((F 4 6) ≤ (4 : Int32)) →
        wpX5_readTarget_b27 F L r K))) ∧
  (((F 4 6) = 0) →
    wpX5_readRelay F L r (fun r13 u13 =>
      K r13 (u13.1, u13.2.1, u13.2.2)))
def wpX5_readTarget (F : Nat → Nat → Int32) (L : Nat → Nat → Int64) (r : Nat → Nat → Nat) (K : Int32 → cS → Prop) : Prop := wpX5_readTarget_b0 F L r K
def wpX5_await_b32 (F : Nat → Nat → Int32) (L : Nat → Nat → Int64) (r : Nat → Nat → Nat) (K : cS → Prop) : Prop :=
  K (F, L, r)
def wpX5_await_b0 (F : Nat → Nat → Int32) (L : Nat → Nat → Int64) (r : Nat → Nat → Nat) (x1 : Int32) (K : cS → Prop) : Prop :=
  (((72 : Int32) ≤ (F 12 9)) →
    wpX5_await_b32 F L r K) ∧
  (¬ ((72 : Int32) ≤ (F 12 9)) →
    vp_in (F 12 9) 72 ∧ wpX5_await_b32 (pt (pt F 16 (ix (F 12 9)) x1) 12 9 (((pt F 16 (ix (F 12 9)) x1) 12 9) + (1 : Int32))) L r K)
def wpX5_await (F : Nat → Nat → Int32) (L : Nat → Nat → Int64) (r : Nat → Nat → Nat) (x1 : Int32) (K : cS → Prop) : Prop := wpX5_await_b0 F L r x1 K
def wpX5_openBracket_b0 (F : Nat → Nat → Int32) (L : Nat → Nat → Int64) (r : Nat → Nat → Nat) (K : cS → Prop) : Prop :=
  (((F 12 7) < (8 : Int32)) →
    wpX5_await (pt (pt F 12 7 ((F 12 7) + (1 : Int32))) 12 8 (((pt F 12 7 ((F 12 7) + (1 : Int32))) 12 8) + (1 : Int32))) L r (27 : Int32) (fun u48 =>
      K (u48.1, u48.2.1, u48.2.2))) ∧
  (¬ ((F 12 7) < (8 : Int32)) →
    wpX9_refuse F L r (2 : Int32) (F 4 4) (fun u21 =>
      K (u21.1, u21.2.1, u21.2.2)))
def wpX5_openBracket (F : Nat → Nat → Int32) (L : Nat → Nat → Int64) (r : Nat → Nat → Nat) (K : cS → Prop) : Prop := wpX5_openBracket_b0 F L r K
def wpX5_countKnot_b0 (F : Nat → Nat → Int32) (L : Nat → Nat → Int64) (r : Nat → Nat → Nat) (K : Int32 → cS → Prop) : Prop :=
  kd (r 12 5) = 4 ∧ (((F (r 12 5) 1) < (64 : Int32)) →
    kd (r 12 5) = 4 ∧ K (1 : Int32) (pt F (r 12 5) 1 ((F (r 12 5) 1) + (1 : Int32)), L, r)) ∧
  (¬ ((F (r 12 5) 1) < (64 : Int32)) →
    wpX9_refuse F L r (2 : Int32) (F 4 4) (fun u24 =>
      K (0 : Int32) (u24.1, u24.2.1, u24.2.2)))
def wpX5_countKnot (F : Nat → Nat → Int32) (L : Nat → Nat → Int64) (r : Nat → Nat → Nat) (K : Int32 → cS → Prop) : Prop := wpX5_countKnot_b0 F L r K
def wpX4_addCode_b29 (a0 : Nat) (F : Nat → Nat → Int32) (L : Nat → Nat → Int64) (r : Nat → Nat → Nat) (K : cS → Prop) : Prop :=
  K (F, L, r)
def wpX4_addCode_b0 (a0 : Nat) (F : Nat → Nat → Int32) (L : Nat → Nat → Int64) (r : Nat → Nat → Nat) (x1 : Int32) (K : cS → Prop) : Prop :=
  (((64 : Int32) ≤ (F a0 2)) →
    wpX4_addCode_b29 a0 F L r K) ∧
  (¬ ((64 : Int32) ≤ (F a0 2)) →
    vp_in (F a0 2) 64 ∧ wpX4_addCode_b29 a0 (pt (pt F (a0 + 1) (ix (F a0 2)) x1) a0 2 (((pt F (a0 + 1) (ix (F a0 2)) x1) a0 2) + (1 : Int32))) L r K)
def wpX4_addCode (a0 : Nat) (F : Nat → Nat → Int32) (L : Nat → Nat → Int64) (r : Nat → Nat → Nat) (x1 : Int32) (K : cS → Prop) : Prop := wpX4_addCode_b0 a0 F L r x1 K
def wpX5_takeOperand_b50 (F : Nat → Nat → Int32) (L : Nat → Nat → Int64) (r : Nat → Nat → Nat) (x1 : Int32) (K : cS → Prop) : Prop :=
  kd (r 12 5) = 4 ∧ wpX4_addCode (r 12 5) F L r x1 (fun u55 =>
    K (u55.1, u55.2.1, u55.2.2))
def wpX5_takeOperand_b0 (F : Nat → Nat → Int32) (L : Nat → Nat → Int64) (r : Nat → Nat → Nat) (x1 : Int32) (K : cS → Prop) : Prop :=
  kd (r 12 5) = 4 ∧ (((64 : Int32) ≤ (F (r 12 5) 2)) →
    wpX5_takeOperand_b50 F L r x1 K) ∧
  (¬ ((64 : Int32) ≤ (F (r 12 5) 2)) →
    kd (r 12 5) = 4 ∧ vp_in (F (r 12 5) 2) 64 ∧ kd (r 12 5) = 4 ∧ vp_in ((pt F 14 (ix (F (r 12 5) 2)) (F 4 5)) (r 12 5) 2) 64 ∧ wpX5_takeOperand_b50 (pt (pt F 14 (ix (F (r 12 5) 2)) (F 4 5)) 15 (ix ((pt F 14 (ix (F (r 12 5) 2)) (F 4 5)) (r 12 5) 2)) ((pt F 14 (ix (F (r 12 5) 2)) (F 4 5)) 4 4)) L r x1 K)
def wpX5_takeOperand (F : Nat → Nat → Int32) (L : Nat → Nat → Int64) (r : Nat → Nat → Nat) (x1 : Int32) (K : cS → Prop) : Prop := wpX5_takeOperand_b0 F L r x1 K
def wpX5_readOperand_b121 (F : Nat → Nat → Int32) (L : Nat → Nat → Int64) (r : Nat → Nat → Nat) (K : Int32 → cS → Prop) : Prop :=
  K (0 : Int32) (F, L, r)
def wpX5_readOperand_b118 (F : Nat → Nat → Int32) (L : Nat → Nat → Int64) (r : Nat → Nat → Nat) (k1 : Int32) (K : Int32 → cS → Prop) : Prop :=
  wpX5_takeOperand F L r k1 (fun u118 =>
    wpX5_readOperand_b121 u118.1 u118.2.1 u118.2.2 K)
def wpX5_readOperand_b94 (F : Nat → Nat → Int32) (L : Nat → Nat → Int64) (r : Nat → Nat → Nat) (x1 : Int32) (x2 : Int32) (K : Int32 → cS → Prop) : Prop :=
  wpX5_countKnot F L r (fun r95 u95 =>
    ((r95 = 0) →
    wpX5_readOperand_b121 u95.1 u95.2.1 u95.2.2 K) ∧
  (¬ (r95 = 0) →
    ((x2 = 0) →
      wpX5_readOperand_b118 u95.1 u95.2.1 u95.2.2 (28 : Int32) K) ∧
    (¬ (x2 = 0) →
      wpX5_readOperand_b118 u95.1 u95.2.1 u95.2.2 (((20 : Int32) + x1) - (8 : Int32)) K)))
def wpX5_readOperand_b64 (F : Nat → Nat → Int32) (L : Nat → Nat → Int64) (r : Nat → Nat → Nat) (k0 : Int32) (x1 : Int32) (K : Int32 → cS → Prop) : Prop :=
  (¬ (k0 = 0) →
    wpX5_readOperand_b94 F L r x1 k0 K) ∧
  ((k0 = 0) →
    wpX5_isName F L r (fun r70 u70 =>
      (¬ (r70 = 0) →
      wpX5_readOperand_b94 u70.1 u70.2.1 u70.2.2 x1 k0 K) ∧
    ((r70 = 0) →
      wpX9_refuse u70.1 u70.2.1 u70.2.2 (1 : Int32) (u70.1 4 4) (fun u88 =>
        wpX5_readOperand_b121 u88.1 u88.2.1 u88.2.2 K))))
def wpX5_readOperand_b63 (F : Nat → Nat → Int32) (L : Nat → Nat → Int64) (r : Nat → Nat → Nat) (x1 : Int32) (K : Int32 → cS → Prop) : Prop :=
  wpX5_readOperand_b64 F L r (0 : Int32) x1 K
def wpX5_readOperand_b45 (F : Nat → Nat → Int32) (L : Nat → Nat → Int64) (r : Nat → Nat → Nat) (K : Int32 → cS → Prop) : Prop :=
  K (1 : Int32) (F, L, r)
def wpX5_readOperand_b0 (F : Nat → Nat → Int32) (L : Nat → Nat → Int64) (r : Nat → Nat → Nat) (K : Int32 → cS → Prop) : Prop :=
  wpX9_isSign F L r (40 : Int32) (fun r14 u14 =>
    ((r14 = 0) →
    (¬ ((F 4 6) = (7 : Int32)) →
      (((F 4 6) < (8 : Int32)) →
        wpX5_readOperand_b63 u14.1 u14.2.1 u14.2.2 (F 4 6) K) ∧
      (¬ ((F 4 6) < (8 : Int32)) →
        (((11 : Int32) < (F 4 6)) →
          wpX5_readOperand_b63 u14.1 u14.2.1 u14.2.2 (F 4 6) K) ∧
        (¬ ((11 : Int32) < (F 4 6)) →
          wpX5_readOperand_b64 u14.1 u14.2.1 u14.2.2 (1 : Int32) (F 4 6) K))) ∧
    (((F 4 6) = (7 : Int32)) →
      wpX5_countKnot u14.1 u14.2.1 u14.2.2 (fun r33 u33 =>
        ((r33 = 0) →
        wpX5_readOperand_b45 u33.1 u33.2.1 u33.2.2 K) ∧
      (¬ (r33 = 0) →
        wpX5_await u33.1 u33.2.1 u33.2.2 (26 : Int32) (fun u42 =>
          wpX5_readOperand_b45 u42.1 u42.2.1 u42.2.2 K))))) ∧
  (¬ (r14 = 0) →
    wpX5_openBracket u14.1 u14.2.1 u14.2.2 (fun u21 =>
      K (1 : Int32) (u21.1, u21.2.1, u21.2.2))))
def wpX5_readOperand (F : Nat → Nat → Int32) (L : Nat → Nat → Int64) (r : Nat → Nat → Nat) (K : Int32 → cS → Prop) : Prop := wpX5_readOperand_b0 F L r K
def wpX5_joinDownTo_b67 (F : Nat → Nat → Int32) (L : Nat → Nat → Int64) (r : Nat → Nat → Nat) (K : cS → Prop) : Prop :=
  K (F, L, r)
def wpX5_joinDownTo_b0_body (B0 : (Nat → Nat → Int32) → (Nat → Nat → Int64) → (Nat → Nat → Nat) → Int32 → Prop) (F : Nat → Nat → Int32) (L : Nat → Nat → Int64) (r : Nat → Nat → Nat) (x1 : Int32) (K : cS → Prop) : Prop :=
  (((F 12 9) ≤ 0) →
    wpX5_joinDownTo_b67 F L r K) ∧
  (¬ ((F 12 9) ≤ 0) →
    vp_in ((F 12 9) - (1 : Int32)) 72 ∧ (((F 16 (ix ((F 12 9) - (1 : Int32)))) < x1) →
      wpX5_joinDownTo_b67 F L r K) ∧
    (¬ ((F 16 (ix ((F 12 9) - (1 : Int32)))) < x1) →
      vp_in ((F 12 9) - (1 : Int32)) 72 ∧ (((F 16 (ix ((F 12 9) - (1 : Int32)))) = (27 : Int32)) →
        wpX5_joinDownTo_b67 F L r K) ∧
      (¬ ((F 16 (ix ((F 12 9) - (1 : Int32)))) = (27 : Int32)) →
        vp_in ((pt F 12 9 ((F 12 9) - (1 : Int32))) 12 9) 72 ∧ kd (r 12 5) = 4 ∧ wpX4_addCode (r 12 5) (pt F 12 9 ((F 12 9) - (1 : Int32))) L r ((pt F 12 9 ((F 12 9) - (1 : Int32))) 16 (ix ((pt F 12 9 ((F 12 9) - (1 : Int32))) 12 9))) (fun u61 =>
          B0 u61.1 u61.2.1 u61.2.2 x1))))
def wpX5_joinDownTo_b0 (n_ : Nat) (F : Nat → Nat → Int32) (L : Nat → Nat → Int64) (r : Nat → Nat → Nat) (x1 : Int32) (K : cS → Prop) : Prop := match n_ with
  | 0 => False
  | n + 1 => wpX5_joinDownTo_b0_body (fun F L r x1 => wpX5_joinDownTo_b0 n F L r x1 K) F L r x1 K
def wpX5_joinDownTo (F : Nat → Nat → Int32) (L : Nat → Nat → Int64) (r : Nat → Nat → Nat) (x1 : Int32) (K : cS → Prop) : Prop := ∃ n, wpX5_joinDownTo_b0 n F L r x1 K
def wpX5_closeBracket_b33 (F : Nat → Nat → Int32) (L : Nat → Nat → Int64) (r : Nat → Nat → Nat) (K : cS → Prop) : Prop :=
  K (F, L, r)
def wpX5_closeBracket_b0 (F : Nat → Nat → Int32) (L : Nat → Nat → Int64) (r : Nat → Nat → Nat) (K : cS → Prop) : Prop :=
  wpX5_joinDownTo F L r (24 : Int32) (fun u3 =>
    ((((pt u3.1 12 8 ((u3.1 12 8) - (1 : Int32))) 12 9) ≤ 0) →
    wpX5_closeBracket_b33 (pt u3.1 12 8 ((u3.1 12 8) - (1 : Int32))) u3.2.1 u3.2.2 K) ∧
  (¬ (((pt u3.1 12 8 ((u3.1 12 8) - (1 : Int32))) 12 9) ≤ 0) →
    wpX5_closeBracket_b33 (pt (pt u3.1 12 8 ((u3.1 12 8) - (1 : Int32))) 12 9 (((pt u3.1 12 8 ((u3.1 12 8) - (1 : Int32))) 12 9) - (1 : Int32))) u3.2.1 u3.2.2 K))
def wpX5_closeBracket (F : Nat → Nat → Int32) (L : Nat → Nat → Int64) (r : Nat → Nat → Nat) (K : cS → Prop) : Prop := wpX5_closeBracket_b0 F L r K
def wpX5_readJoint_b67 (F : Nat → Nat → Int32) (L : Nat → Nat → Int64) (r : Nat → Nat → Nat) (K : cS → Prop) : Prop :=
  K (F, L, r)
def wpX5_readJoint_b56 (F : Nat → Nat → Int32) (L : Nat → Nat → Int64) (r : Nat → Nat → Nat) (k0 : Int32) (K : cS → Prop) : Prop :=
  wpX5_joinDownTo F L r k0 (fun u59 =>
    wpX5_await u59.1 u59.2.1 u59.2.2 k0 (fun u64 =>
    wpX5_readJoint_b67 u64.1 u64.2.1 u64.2.2 K))
def wpX5_readJoint_b37 (F : Nat → Nat → Int32) (L : Nat → Nat → Int64) (r : Nat → Nat → Nat) (x1 : Int32) (K : cS → Prop) : Prop :=
  wpX5_countKnot F L r (fun r38 u38 =>
    ((r38 = 0) →
    wpX5_readJoint_b67 u38.1 u38.2.1 u38.2.2 K) ∧
  (¬ (r38 = 0) →
    (¬ (x1 = (5 : Int32)) →
      wpX5_readJoint_b56 u38.1 u38.2.1 u38.2.2 (25 : Int32) K) ∧
    ((x1 = (5 : Int32)) →
      wpX5_readJoint_b56 u38.1 u38.2.1 u38.2.2 (24 : Int32) K)))
def wpX5_readJoint_b0 (F : Nat → Nat → Int32) (L : Nat → Nat → Int64) (r : Nat → Nat → Nat) (K : cS → Prop) : Prop :=
  (((F 4 6) = (5 : Int32)) →
    wpX5_readJoint_b37 F L r (F 4 6) K) ∧
  (¬ ((F 4 6) = (5 : Int32)) →
    (((F 4 6) = (6 : Int32)) →
      wpX5_readJoint_b37 F L r (F 4 6) K) ∧
    (¬ ((F 4 6) = (6 : Int32)) →
      wpX9_refuse F L r (1 : Int32) (F 4 4) (fun u31 =>
        wpX5_readJoint_b67 u31.1 u31.2.1 u31.2.2 K)))
def wpX5_readJoint (F : Nat → Nat → Int32) (L : Nat → Nat → Int64) (r : Nat → Nat → Nat) (K : cS → Prop) : Prop := wpX5_readJoint_b0 F L r K
def wpX5_readExpression_b124 (F : Nat → Nat → Int32) (L : Nat → Nat → Int64) (r : Nat → Nat → Nat) (K : cS → Prop) : Prop :=
  K (F, L, r)
def wpX5_readExpression_b118 (B14 : (Nat → Nat → Int32) → (Nat → Nat → Int64) → (Nat → Nat → Nat) → Int32 → Int32 → Prop) (F : Nat → Nat → Int32) (L : Nat → Nat → Int64) (r : Nat → Nat → Nat) (x1 : Int32) (x2 : Int32) (K : cS → Prop) : Prop :=
  B14 F L r x1 (x2 + (1 : Int32))
def wpX5_readExpression_b101 (B14 : (Nat → Nat → Int32) → (Nat → Nat → Int64) → (Nat → Nat → Nat) → Int32 → Int32 → Prop) (F : Nat → Nat → Int32) (L : Nat → Nat → Int64) (r : Nat → Nat → Nat) (x1 : Int32) (x2 : Int32) (K : cS → Prop) : Prop :=
  (¬ ((F 4 1) = 0) →
    wpX5_readExpression_b118 B14 F L r x1 x2 K) ∧
  (((F 4 1) = 0) →
    wpX9_advance F L r (fun u115 =>
      wpX5_readExpression_b118 B14 u115.1 u115.2.1 u115.2.2 x1 x2 K))
def wpX5_readExpression_b95 (B14 : (Nat → Nat → Int32) → (Nat → Nat → Int64) → (Nat → Nat → Nat) → Int32 → Int32 → Prop) (F : Nat → Nat → Int32) (L : Nat → Nat → Int64) (r : Nat → Nat → Nat) (x2 : Int32) (K : cS → Prop) : Prop :=
  wpX5_readJoint F L r (fun u96 =>
    wpX5_readExpression_b101 B14 u96.1 u96.2.1 u96.2.2 (1 : Int32) x2 K)
def wpX5_readExpression_b69 (B14 : (Nat → Nat → Int32) → (Nat → Nat → Int64) → (Nat → Nat → Nat) → Int32 → Int32 → Prop) (F : Nat → Nat → Int32) (L : Nat → Nat → Int64) (r : Nat → Nat → Nat) (x1 : Int32) (x2 : Int32) (K : cS → Prop) : Prop :=
  (((F 12 8) ≤ 0) →
    wpX5_readExpression_b95 B14 F L r x2 K) ∧
  (¬ ((F 12 8) ≤ 0) →
    wpX9_isSign F L r (41 : Int32) (fun r82 u82 =>
      ((r82 = 0) →
      wpX5_readExpression_b95 B14 u82.1 u82.2.1 u82.2.2 x2 K) ∧
    (¬ (r82 = 0) →
      wpX5_closeBracket u82.1 u82.2.1 u82.2.2 (fun u89 =>
        wpX5_readExpression_b101 B14 u89.1 u89.2.1 u89.2.2 x1 x2 K))))
def wpX5_readExpression_b14_body (B14 : (Nat → Nat → Int32) → (Nat → Nat → Int64) → (Nat → Nat → Nat) → Int32 → Int32 → Prop) (F : Nat → Nat → Int32) (L : Nat → Nat → Int64) (r : Nat → Nat → Nat) (x1 : Int32) (x2 : Int32) (K : cS → Prop) : Prop :=
  (((500 : Int32) < x2) →
    wpX5_readExpression_b124 F L r K) ∧
  (¬ ((500 : Int32) < x2) →
    (¬ ((F 4 1) = 0) →
      wpX5_readExpression_b124 F L r K) ∧
    (((F 4 1) = 0) →
      ((x1 = 0) →
        (¬ ((F 12 8) = 0) →
          wpX5_readExpression_b69 B14 F L r x1 x2 K) ∧
        (((F 12 8) = 0) →
          wpX9_isSign F L r (59 : Int32) (fun r56 u56 =>
            ((r56 = 0) →
            wpX5_readExpression_b69 B14 u56.1 u56.2.1 u56.2.2 x1 x2 K) ∧
          (¬ (r56 = 0) →
            wpX5_joinDownTo u56.1 u56.2.1 u56.2.2 (24 : Int32) (fun u65 =>
              K (u65.1, u65.2.1, u65.2.2)))))) ∧
      (¬ (x1 = 0) →
        wpX5_readOperand F L r (fun r36 u36 =>
          wpX5_readExpression_b101 B14 u36.1 u36.2.1 u36.2.2 r36 x2 K))))
def wpX5_readExpression_b14 (n_ : Nat) (F : Nat → Nat → Int32) (L : Nat → Nat → Int64) (r : Nat → Nat → Nat) (x1 : Int32) (x2 : Int32) (K : cS → Prop) : Prop := match n_ with
  | 0 => False
  | n + 1 => wpX5_readExpression_b14_body (fun F L r x1 x2 => wpX5_readExpression_b14 n F L r x1 x2 K) F L r x1 x2 K
def wpX5_readExpression_b0 (F : Nat → Nat → Int32) (L : Nat → Nat → Int64) (r : Nat → Nat → Nat) (K : cS → Prop) : Prop :=
  ∃ n, wpX5_readExpression_b14 n (pt (pt F 12 8 (0 : Int32)) 12 9 (0 : Int32)) L r (1 : Int32) (0 : Int32) K
def wpX5_readExpression (F : Nat → Nat → Int32) (L : Nat → Nat → Int64) (r : Nat → Nat → Nat) (K : cS → Prop) : Prop := wpX5_readExpression_b0 F L r K
def wpX5_readLine_b31 (F : Nat → Nat → Int32) (L : Nat → Nat → Int64) (r : Nat → Nat → Nat) (K : cS → Prop) : Prop :=
  K (F, L, r)
def wpX5_readLine_b127 (F : Nat → Nat → Int32) (L : Nat → Nat → Int64) (r : Nat → Nat → Nat) (K : cS → Prop) : Prop :=
  K (F, L, r)
def wpX5_readLine_b0 (F : Nat → Nat → Int32) (L : Nat → Nat → Int64) (r : Nat → Nat → Nat) (K : cS → Prop) : Prop :=
  wpX5_readTarget F L r (fun r1 u1 =>
    (¬ ((u1.1 4 1) = 0) →
    wpX5_readLine_b31 u1.1 u1.2.1 u1.2.2 K) ∧
  (((u1.1 4 1) = 0) →
    ((r1 < 0) →
      wpX5_readLine_b31 u1.1 u1.2.1 u1.2.2 K) ∧
    (¬ (r1 < 0) →
      kd (u1.2.2 12 5) = 4 ∧ ((r1 < (24 : Int32)) →
        wpX9_advance u1.1 u1.2.1 u1.2.2 (fun u36 =>
          wpX9_isSign u36.1 u36.2.1 u36.2.2 (61 : Int32) (fun r45 u45 =>
          (¬ (r45 = 0) →
          wpX9_advance u45.1 u45.2.1 u45.2.2 (fun u71 =>
            kd (u71.2.2 12 5) = 4 ∧ kd (u71.2.2 12 5) = 4 ∧ vp_in r1 24 ∧ wpX5_readExpression (pt u71.1 (u71.2.2 12 5 + 2) (ix r1) (u71.1 (u71.2.2 12 5) 2)) u71.2.1 u71.2.2 (fun u91 =>
            kd (u91.2.2 12 5) = 4 ∧ kd (u91.2.2 12 5) = 4 ∧ vp_in r1 24 ∧ (¬ (((pt u91.1 (u91.2.2 12 5 + 3) (ix r1) (u91.1 (u91.2.2 12 5) 2)) 4 1) = 0) →
            wpX5_readLine_b127 (pt u91.1 (u91.2.2 12 5 + 3) (ix r1) (u91.1 (u91.2.2 12 5) 2)) u91.2.1 u91.2.2 K) ∧
          ((((pt u91.1 (u91.2.2 12 5 + 3) (ix r1) (u91.1 (u91.2.2 12 5) 2)) 4 1) = 0) →
            wpX9_advance (pt u91.1 (u91.2.2 12 5 + 3) (ix r1) (u91.1 (u91.2.2 12 5) 2)) u91.2.1 u91.2.2 (fun u124 =>
              wpX5_readLine_b127 u124.1 u124.2.1 u124.2.2 K))))) ∧
        ((r45 = 0) →
          wpX9_refuse u45.1 u45.2.1 u45.2.2 (1 : Int32) (u45.1 4 4) (fun u63 =>
            K (u63.1, u63.2.1, u63.2.2)))))) ∧
      (¬ (r1 < (24 : Int32)) →
        wpX5_readLine_b31 u1.1 u1.2.1 u1.2.2 K))))
def wpX5_readLine (F : Nat → Nat → Int32) (L : Nat → Nat → Int64) (r : Nat → Nat → Nat) (K : cS → Prop) : Prop := wpX5_readLine_b0 F L r K
def wpX5_findNames_b86 (F : Nat → Nat → Int32) (L : Nat → Nat → Int64) (r : Nat → Nat → Nat) (K : cS → Prop) : Prop :=
  K (F, L, r)
def wpX5_findNames_b80 (B2 : (Nat → Nat → Int32) → (Nat → Nat → Int64) → (Nat → Nat → Nat) → Int32 → Prop) (F : Nat → Nat → Int32) (L : Nat → Nat → Int64) (r : Nat → Nat → Nat) (x1 : Int32) (K : cS → Prop) : Prop :=
  B2 F L r (x1 + (1 : Int32))
def wpX5_findNames_b2_body (B2 : (Nat → Nat → Int32) → (Nat → Nat → Int64) → (Nat → Nat → Nat) → Int32 → Prop) (F : Nat → Nat → Int32) (L : Nat → Nat → Int64) (r : Nat → Nat → Nat) (x1 : Int32) (K : cS → Prop) : Prop :=
  kd (r 12 5) = 4 ∧ (((F (r 12 5) 2) ≤ x1) →
    wpX5_findNames_b86 F L r K) ∧
  (¬ ((F (r 12 5) 2) ≤ x1) →
    (¬ ((F 4 1) = 0) →
      wpX5_findNames_b86 F L r K) ∧
    (((F 4 1) = 0) →
      kd (r 12 5) = 4 ∧ vp_in x1 64 ∧ (¬ ((F (r 12 5 + 1) (ix x1)) = (28 : Int32)) →
        wpX5_findNames_b80 B2 F L r x1 K) ∧
      (((F (r 12 5 + 1) (ix x1)) = (28 : Int32)) →
        vp_in x1 64 ∧ wpX5_relayOf F L r (F 14 (ix x1)) (fun r44 u44 =>
          (¬ (r44 = (-1 : Int32)) →
          kd (u44.2.2 12 5) = 4 ∧ vp_in x1 64 ∧ wpX5_findNames_b80 B2 (pt u44.1 (u44.2.2 12 5 + 1) (ix x1) r44) u44.2.1 u44.2.2 x1 K) ∧
        ((r44 = (-1 : Int32)) →
          vp_in x1 64 ∧ wpX9_refuse u44.1 u44.2.1 u44.2.2 (4 : Int32) (u44.1 15 (ix x1)) (fun u64 =>
            wpX5_findNames_b80 B2 u64.1 u64.2.1 u64.2.2 x1 K))))))
def wpX5_findNames_b2 (n_ : Nat) (F : Nat → Nat → Int32) (L : Nat → Nat → Int64) (r : Nat → Nat → Nat) (x1 : Int32) (K : cS → Prop) : Prop := match n_ with
  | 0 => False
  | n + 1 => wpX5_findNames_b2_body (fun F L r x1 => wpX5_findNames_b2 n F L r x1 K) F L r x1 K
def wpX5_findNames_b0 (F : Nat → Nat → Int32) (L : Nat → Nat → Int64) (r : Nat → Nat → Nat) (K : cS → Prop) : Prop :=
  ∃ n, wpX5_findNames_b2 n F L r (0 : Int32) K
def wpX5_findNames (F : Nat → Nat → Int32) (L : Nat → Nat → Int64) (r : Nat → Nat → Nat) (K : cS → Prop) : Prop := wpX5_findNames_b0 F L r K
def wpX5_read_b95 (F : Nat → Nat → Int32) (L : Nat → Nat → Int64) (r : Nat → Nat → Nat) (k0 : Int32) (K : Int32 → cS → Prop) : Prop :=
  isB k0 ∧ K k0 (F, L, r)
def wpX5_read_b80 (F : Nat → Nat → Int32) (L : Nat → Nat → Int64) (r : Nat → Nat → Nat) (K : Int32 → cS → Prop) : Prop :=
  (¬ ((F 4 1) = 0) →
    wpX5_read_b95 F L r (0 : Int32) K) ∧
  (((F 4 1) = 0) →
    wpX5_read_b95 F L r (1 : Int32) K)
def wpX5_read_b66 (F : Nat → Nat → Int32) (L : Nat → Nat → Int64) (r : Nat → Nat → Nat) (K : Int32 → cS → Prop) : Prop :=
  (¬ ((F 4 1) = 0) →
    wpX5_read_b80 F L r K) ∧
  (((F 4 1) = 0) →
    wpX5_findNames F L r (fun u77 =>
      wpX5_read_b80 u77.1 u77.2.1 u77.2.2 K))
def wpX5_read_b29_body (B29 : (Nat → Nat → Int32) → (Nat → Nat → Int64) → (Nat → Nat → Nat) → Int32 → Prop) (F : Nat → Nat → Int32) (L : Nat → Nat → Int64) (r : Nat → Nat → Nat) (x2 : Int32) (K : Int32 → cS → Prop) : Prop :=
  (((500 : Int32) < x2) →
    wpX5_read_b66 F L r K) ∧
  (¬ ((500 : Int32) < x2) →
    (¬ ((F 4 1) = 0) →
      wpX5_read_b66 F L r K) ∧
    (((F 4 1) = 0) →
      (((F 4 3) = 0) →
        wpX5_read_b66 F L r K) ∧
      (¬ ((F 4 3) = 0) →
        wpX5_readLine F L r (fun u57 =>
          B29 u57.1 u57.2.1 u57.2.2 (x2 + (1 : Int32))))))
def wpX5_read_b29 (n_ : Nat) (F : Nat → Nat → Int32) (L : Nat → Nat → Int64) (r : Nat → Nat → Nat) (x2 : Int32) (K : Int32 → cS → Prop) : Prop := match n_ with
  | 0 => False
  | n + 1 => wpX5_read_b29_body (fun F L r x2 => wpX5_read_b29 n F L r x2 K) F L r x2 K
def wpX5_read_b0 (F : Nat → Nat → Int32) (L : Nat → Nat → Int64) (r : Nat → Nat → Nat) (x1 : Int32) (K : Int32 → cS → Prop) : Prop :=
  kd (r 12 5) = 4 ∧ wpX4_clear (r 12 5) F L r (fun u4 =>
    wpX9_open 1 (pt (pt u4.1 12 6 (0 : Int32)) 12 7 (0 : Int32)) u4.2.1 u4.2.2 x1 (fun u24 =>
    ∃ n, wpX5_read_b29 n u24.1 u24.2.1 u24.2.2 (0 : Int32) K))
def wpX5_read (F : Nat → Nat → Int32) (L : Nat → Nat → Int64) (r : Nat → Nat → Nat) (x1 : Int32) (K : Int32 → cS → Prop) : Prop := wpX5_read_b0 F L r x1 K
def wpX5_exchange_b0 (a1 : Nat) (F : Nat → Nat → Int32) (L : Nat → Nat → Int64) (r : Nat → Nat → Nat) (K : Nat → cS → Prop) : Prop :=
  K (r 12 5) (F, L, ptN r 12 5 a1)
def wpX5_exchange (a1 : Nat) (F : Nat → Nat → Int32) (L : Nat → Nat → Int64) (r : Nat → Nat → Nat) (K : Nat → cS → Prop) : Prop := wpX5_exchange_b0 a1 F L r K
def wpX0_renew_b0 (a0 : Nat) (F : Nat → Nat → Int32) (L : Nat → Nat → Int64) (r : Nat → Nat → Nat) (K : cS → Prop) : Prop :=
  K (pt (pt (pt (pt F a0 1 (0 : Int32)) a0 2 (0 : Int32)) a0 0 (0 : Int32)) a0 3 (0 : Int32), L, r)
def wpX0_renew (a0 : Nat) (F : Nat → Nat → Int32) (L : Nat → Nat → Int64) (r : Nat → Nat → Nat) (K : cS → Prop) : Prop := wpX0_renew_b0 a0 F L r K
def wpX10_net_b15 (F : Nat → Nat → Int32) (L : Nat → Nat → Int64) (r : Nat → Nat → Nat) (K : Int32 → cS → Prop) : Prop :=
  K (-2 : Int32) (F, L, r)
def wpX10_net_b0 (F : Nat → Nat → Int32) (L : Nat → Nat → Int64) (r : Nat → Nat → Nat) (x1 : Int32) (K : Int32 → cS → Prop) : Prop :=
  ((x1 < 0) →
    wpX10_net_b15 F L r K) ∧
  (¬ (x1 < 0) →
    ((x1 ≤ (F 4 0)) →
      wpX5_read F L r x1 (fun r23 u23 =>
        (¬ (r23 = 0) →
        kd (u23.2.2 0 4) = 4 ∧ wpX5_exchange (u23.2.2 0 4) u23.1 u23.2.1 u23.2.2 (fun r40 u40 =>
          wpX0_renew 43 u40.1 u40.2.1 (ptN u40.2.2 0 4 r40) (fun u50 =>
          kd (u50.2.2 0 4) = 4 ∧ K ((pt u50.1 0 11 (0 : Int32)) (u50.2.2 0 4) 0) (pt u50.1 0 11 (0 : Int32), u50.2.1, u50.2.2)))) ∧
      ((r23 = 0) →
        K (-1 : Int32) (u23.1, u23.2.1, u23.2.2)))) ∧
    (¬ (x1 ≤ (F 4 0)) →
      wpX10_net_b15 F L r K))
def wpX10_net (F : Nat → Nat → Int32) (L : Nat → Nat → Int64) (r : Nat → Nat → Nat) (x1 : Int32) (K : Int32 → cS → Prop) : Prop := wpX10_net_b0 F L r x1 K
def wpX10_fault_b0 (F : Nat → Nat → Int32) (L : Nat → Nat → Int64) (r : Nat → Nat → Nat) (x1 : Int32) (K : Int32 → cS → Prop) : Prop :=
  (x1 = (0 : Int32) →
    K (F 4 1) (F, L, r)) ∧
  (x1 = (1 : Int32) →
    K (F 4 2) (F, L, r)) ∧
  (¬ x1 = (0 : Int32) ∧ ¬ x1 = (1 : Int32) →
    K (-1 : Int32) (F, L, r))
def wpX10_fault (F : Nat → Nat → Int32) (L : Nat → Nat → Int64) (r : Nat → Nat → Nat) (x1 : Int32) (K : Int32 → cS → Prop) : Prop := wpX10_fault_b0 F L r x1 K
def wpX3_setDown_b0 (a0 : Nat) (F : Nat → Nat → Int32) (L : Nat → Nat → Int64) (r : Nat → Nat → Nat) (x1 : Int32) (K : cS → Prop) : Prop :=
  K (pt (pt (pt (pt F a0 0 x1) a0 1 (0 : Int32)) a0 2 (0 : Int32)) a0 3 (0 : Int32), L, r)
def wpX3_setDown (a0 : Nat) (F : Nat → Nat → Int32) (L : Nat → Nat → Int64) (r : Nat → Nat → Nat) (x1 : Int32) (K : cS → Prop) : Prop := wpX3_setDown_b0 a0 F L r x1 K
def wpX3_clearSquares_b12_body (B12 : (Nat → Nat → Int32) → (Nat → Nat → Int64) → (Nat → Nat → Nat) → Int32 → Prop) (a0 : Nat) (F : Nat → Nat → Int32) (L : Nat → Nat → Int64) (r : Nat → Nat → Nat) (x1 : Int32) (K : cS → Prop) : Prop :=
  (((3 : Int32) ≤ x1) →
    K (F, L, r)) ∧
  (¬ ((3 : Int32) ≤ x1) →
    vp_in x1 3 ∧ B12 F (ptL L (a0 + 1) (ix x1) (0 : Int64)) r (x1 + (1 : Int32)))
def wpX3_clearSquares_b12 (a0 : Nat) (n_ : Nat) (F : Nat → Nat → Int32) (L : Nat → Nat → Int64) (r : Nat → Nat → Nat) (x1 : Int32) (K : cS → Prop) : Prop := match n_ with
  | 0 => False
  | n + 1 => wpX3_clearSquares_b12_body (fun F L r x1 => wpX3_clearSquares_b12 a0 n F L r x1 K) a0 F L r x1 K
def wpX3_clearSquares_b0 (a0 : Nat) (F : Nat → Nat → Int32) (L : Nat → Nat → Int64) (r : Nat → Nat → Nat) (K : cS → Prop) : Prop :=
  ∃ n, wpX3_clearSquares_b12 a0 n F (ptL (ptL L a0 4 (0 : Int64)) a0 5 (0 : Int64)) r (0 : Int32) K
def wpX3_clearSquares (a0 : Nat) (F : Nat → Nat → Int32) (L : Nat → Nat → Int64) (r : Nat → Nat → Nat) (K : cS → Prop) : Prop := wpX3_clearSquares_b0 a0 F L r K
def wpX3_setDownWiped_b0 (a0 : Nat) (F : Nat → Nat → Int32) (L : Nat → Nat → Int64) (r : Nat → Nat → Nat) (x1 : Int32) (K : cS → Prop) : Prop :=
  wpX3_setDown a0 F L r x1 (fun u2 =>
    wpX3_clearSquares a0 u2.1 u2.2.1 u2.2.2 (fun u6 =>
    K (u6.1, u6.2.1, u6.2.2)))
def wpX3_setDownWiped (a0 : Nat) (F : Nat → Nat → Int32) (L : Nat → Nat → Int64) (r : Nat → Nat → Nat) (x1 : Int32) (K : cS → Prop) : Prop := wpX3_setDownWiped_b0 a0 F L r x1 K
def wpX0_settle_b0 (a0 : Nat) (F : Nat → Nat → Int32) (L : Nat → Nat → Int64) (r : Nat → Nat → Nat) (x1 : Int32) (K : cS → Prop) : Prop :=
  K (pt F a0 0 ((x1 &&& ((F a0 1) ^^^ (-1 : Int32))) ||| (F a0 2)), L, r)
def wpX0_settle (a0 : Nat) (F : Nat → Nat → Int32) (L : Nat → Nat → Int64) (r : Nat → Nat → Nat) (x1 : Int32) (K : cS → Prop) : Prop := wpX0_settle_b0 a0 F L r x1 K
def wpX0_release_b0 (a0 : Nat) (F : Nat → Nat → Int32) (L : Nat → Nat → Int64) (r : Nat → Nat → Nat) (K : cS → Prop) : Prop :=
  wpX0_settle a0 F L r (0 : Int32) (fun u2 =>
    K (u2.1, u2.2.1, u2.2.2))
def wpX0_release (a0 : Nat) (F : Nat → Nat → Int32) (L : Nat → Nat → Int64) (r : Nat → Nat → Nat) (K : cS → Prop) : Prop := wpX0_release_b0 a0 F L r K
def wpX10_floor_b22 (F : Nat → Nat → Int32) (L : Nat → Nat → Int64) (r : Nat → Nat → Nat) (K : Int32 → cS → Prop) : Prop :=
  K (0 : Int32) (F, L, r)
def wpX10_floor_b0 (F : Nat → Nat → Int32) (L : Nat → Nat → Int64) (r : Nat → Nat → Nat) (x1 : Int32) (x2 : Int32) (K : Int32 → cS → Prop) : Prop :=
  ((x1 < (2 : Int32)) →
    wpX10_floor_b22 F L r K) ∧
  (¬ (x1 < (2 : Int32)) →
    (((6 : Int32) < x1) →
      wpX10_floor_b22 F L r K) ∧
    (¬ ((6 : Int32) < x1) →
      ((x2 < (2 : Int32)) →
        wpX10_floor_b22 F L r K) ∧
      (¬ (x2 < (2 : Int32)) →
        ((x2 ≤ (6 : Int32)) →
          wpX1_lay 46 F L r x1 x2 (fun u30 =>
            wpX3_setDownWiped 74 u30.1 u30.2.1 u30.2.2 (0 : Int32) (fun u38 =>
            wpX0_release 43 (pt u38.1 74 6 (-1 : Int32)) u38.2.1 u38.2.2 (fun u53 =>
            K (1 : Int32) (pt (pt u53.1 4 0 (0 : Int32)) 0 11 (0 : Int32), u53.2.1, u53.2.2))))) ∧
        (¬ (x2 ≤ (6 : Int32)) →
          wpX10_floor_b22 F L r K))))
def wpX10_floor (F : Nat → Nat → Int32) (L : Nat → Nat → Int64) (r : Nat → Nat → Nat) (x1 : Int32) (x2 : Int32) (K : Int32 → cS → Prop) : Prop := wpX10_floor_b0 F L r x1 x2 K
def wpX1_has_b17 (a0 : Nat) (F : Nat → Nat → Int32) (L : Nat → Nat → Int64) (r : Nat → Nat → Nat) (k0 : Int32) (K : Int32 → cS → Prop) : Prop :=
  isB k0 ∧ K k0 (F, L, r)
def wpX1_has_b16 (a0 : Nat) (F : Nat → Nat → Int32) (L : Nat → Nat → Int64) (r : Nat → Nat → Nat) (K : Int32 → cS → Prop) : Prop :=
  wpX1_has_b17 a0 F L r (0 : Int32) K
def wpX1_has_b0 (a0 : Nat) (F : Nat → Nat → Int32) (L : Nat → Nat → Int64) (r : Nat → Nat → Nat) (x1 : Int32) (K : Int32 → cS → Prop) : Prop :=
  ((x1 < 0) →
    wpX1_has_b16 a0 F L r K) ∧
  (¬ (x1 < 0) →
    (((F a0 2) ≤ x1) →
      wpX1_has_b16 a0 F L r K) ∧
    (¬ ((F a0 2) ≤ x1) →
      wpX1_has_b17 a0 F L r (1 : Int32) K))
def wpX1_has (a0 : Nat) (F : Nat → Nat → Int32) (L : Nat → Nat → Int64) (r : Nat → Nat → Nat) (x1 : Int32) (K : Int32 → cS → Prop) : Prop := wpX1_has_b0 a0 F L r x1 K
def wpX10_isSide_b14 (k0 : Int32) (K : Int32 → Unit → Prop) : Prop :=
  isB k0 ∧ K k0 ()
def wpX10_isSide_b13 (K : Int32 → Unit → Prop) : Prop :=
  wpX10_isSide_b14 (0 : Int32) K
def wpX10_isSide_b0 (x0 : Int32) (K : Int32 → Unit → Prop) : Prop :=
  ((x0 < 0) →
    wpX10_isSide_b13  K) ∧
  (¬ (x0 < 0) →
    (((4 : Int32) ≤ x0) →
      wpX10_isSide_b13  K) ∧
    (¬ ((4 : Int32) ≤ x0) →
      wpX10_isSide_b14 (1 : Int32) K))
def wpX10_isSide (x0 : Int32) (K : Int32 → Unit → Prop) : Prop := wpX10_isSide_b0  x0 K
def wpX1_isRim_b22 (a0 : Nat) (F : Nat → Nat → Int32) (L : Nat → Nat → Int64) (r : Nat → Nat → Nat) (k0 : Int32) (K : Int32 → cS → Prop) : Prop :=
  isB k0 ∧ K k0 (F, L, r)
def wpX1_isRim_b0 (a0 : Nat) (F : Nat → Nat → Int32) (L : Nat → Nat → Int64) (r : Nat → Nat → Nat) (x1 : Int32) (x2 : Int32) (K : Int32 → cS → Prop) : Prop :=
  vp_in (x2 &&& (3 : Int32)) 4 ∧ (((lg_cmp ((jlushr (L (a0 + 3) (ix (x2 &&& (3 : Int32)))) x1) &&& (1 : Int64)) (0 : Int64)) = 0) →
    wpX1_isRim_b22 a0 F L r (0 : Int32) K) ∧
  (¬ ((lg_cmp ((jlushr (L (a0 + 3) (ix (x2 &&& (3 : Int32)))) x1) &&& (1 : Int64)) (0 : Int64)) = 0) →
    wpX1_isRim_b22 a0 F L r (1 : Int32) K)
def wpX1_isRim (a0 : Nat) (F : Nat → Nat → Int32) (L : Nat → Nat → Int64) (r : Nat → Nat → Nat) (x1 : Int32) (x2 : Int32) (K : Int32 → cS → Prop) : Prop := wpX1_isRim_b0 a0 F L r x1 x2 K
def wpX1_isWalled_b22 (a0 : Nat) (F : Nat → Nat → Int32) (L : Nat → Nat → Int64) (r : Nat → Nat → Nat) (k0 : Int32) (K : Int32 → cS → Prop) : Prop :=
  isB k0 ∧ K k0 (F, L, r)
def wpX1_isWalled_b0 (a0 : Nat) (F : Nat → Nat → Int32) (L : Nat → Nat → Int64) (r : Nat → Nat → Nat) (x1 : Int32) (x2 : Int32) (K : Int32 → cS → Prop) : Prop :=
  vp_in (x2 &&& (3 : Int32)) 4 ∧ (((lg_cmp ((jlushr (L (a0 + 1) (ix (x2 &&& (3 : Int32)))) x1) &&& (1 : Int64)) (0 : Int64)) = 0) →
    wpX1_isWalled_b22 a0 F L r (0 : Int32) K) ∧
  (¬ ((lg_cmp ((jlushr (L (a0 + 1) (ix (x2 &&& (3 : Int32)))) x1) &&& (1 : Int64)) (0 : Int64)) = 0) →
    wpX1_isWalled_b22 a0 F L r (1 : Int32) K)
def wpX1_isWalled (a0 : Nat) (F : Nat → Nat → Int32) (L : Nat → Nat → Int64) (r : Nat → Nat → Nat) (x1 : Int32) (x2 : Int32) (K : Int32 → cS → Prop) : Prop := wpX1_isWalled_b0 a0 F L r x1 x2 K
def wpX1_markWall_b39 (a0 : Nat) (F : Nat → Nat → Int32) (L : Nat → Nat → Int64) (r : Nat → Nat → Nat) (K : cS → Prop) : Prop :=
  K (F, L, r)
def wpX1_markWall_b0 (a0 : Nat) (F : Nat → Nat → Int32) (L : Nat → Nat → Int64) (r : Nat → Nat → Nat) (x1 : Int32) (x2 : Int32) (x3 : Int32) (K : cS → Prop) : Prop :=
  ((x3 = 0) →
    vp_in (x2 &&& (3 : Int32)) 4 ∧ vp_in (x2 &&& (3 : Int32)) 4 ∧ wpX1_markWall_b39 a0 F (ptL L (a0 + 1) (ix (x2 &&& (3 : Int32))) ((L (a0 + 1) (ix (x2 &&& (3 : Int32)))) &&& ((jlshl (1 : Int64) x1) ^^^ (-1 : Int64)))) r K) ∧
  (¬ (x3 = 0) →
    vp_in (x2 &&& (3 : Int32)) 4 ∧ vp_in (x2 &&& (3 : Int32)) 4 ∧ wpX1_markWall_b39 a0 F (ptL L (a0 + 1) (ix (x2 &&& (3 : Int32))) ((L (a0 + 1) (ix (x2 &&& (3 : Int32)))) ||| (jlshl (1 : Int64) x1))) r K)
def wpX1_markWall (a0 : Nat) (F : Nat → Nat → Int32) (L : Nat → Nat → Int64) (r : Nat → Nat → Nat) (x1 : Int32) (x2 : Int32) (x3 : Int32) (K : cS → Prop) : Prop := wpX1_markWall_b0 a0 F L r x1 x2 x3 K
def wpX1_ahead_b0 (a0 : Nat) (F : Nat → Nat → Int32) (L : Nat → Nat → Int64) (r : Nat → Nat → Nat) (x1 : Int32) (x2 : Int32) (K : Int32 → cS → Prop) : Prop :=
  vp_in (x2 &&& (3 : Int32)) 4 ∧ K (x1 + (F (a0 + 2) (ix (x2 &&& (3 : Int32))))) (F, L, r)
def wpX1_ahead (a0 : Nat) (F : Nat → Nat → Int32) (L : Nat → Nat → Int64) (r : Nat → Nat → Nat) (x1 : Int32) (x2 : Int32) (K : Int32 → cS → Prop) : Prop := wpX1_ahead_b0 a0 F L r x1 x2 K
def wpX1_putWall_b0 (a0 : Nat) (F : Nat → Nat → Int32) (L : Nat → Nat → Int64) (r : Nat → Nat → Nat) (x1 : Int32) (x2 : Int32) (x3 : Int32) (K : cS → Prop) : Prop :=
  wpX1_markWall a0 F L r x1 x2 x3 (fun u4 =>
    wpX1_ahead a0 u4.1 u4.2.1 u4.2.2 x1 x2 (fun r11 u11 =>
    wpX1_markWall a0 u11.1 u11.2.1 u11.2.2 r11 (x2 + (2 : Int32)) x3 (fun u18 =>
    K (u18.1, u18.2.1, u18.2.2))))
def wpX1_putWall (a0 : Nat) (F : Nat → Nat → Int32) (L : Nat → Nat → Int64) (r : Nat → Nat → Nat) (x1 : Int32) (x2 : Int32) (x3 : Int32) (K : cS → Prop) : Prop := wpX1_putWall_b0 a0 F L r x1 x2 x3 K
def wpX10_wall_b30 (F : Nat → Nat → Int32) (L : Nat → Nat → Int64) (r : Nat → Nat → Nat) (K : Int32 → cS → Prop) : Prop :=
  K (0 : Int32) (F, L, r)
def wpX10_wall_b0 (F : Nat → Nat → Int32) (L : Nat → Nat → Int64) (r : Nat → Nat → Nat) (x1 : Int32) (x2 : Int32) (x3 : Int32) (K : Int32 → cS → Prop) : Prop :=
  wpX1_has 46 F L r x1 (fun r5 u5 =>
    ((r5 = 0) →
    wpX10_wall_b30 u5.1 u5.2.1 u5.2.2 K) ∧
  (¬ (r5 = 0) →
    wpX10_isSide x2 (fun r12 u12 =>
      ((r12 = 0) →
      wpX10_wall_b30 u5.1 u5.2.1 u5.2.2 K) ∧
    (¬ (r12 = 0) →
      wpX1_isRim 46 u5.1 u5.2.1 u5.2.2 x1 x2 (fun r24 u24 =>
        ((r24 = 0) →
        wpX1_isWalled 46 u24.1 u24.2.1 u24.2.2 x1 x2 (fun r38 u38 =>
          (¬ (r38 = x3) →
          wpX1_putWall 46 u38.1 u38.2.1 u38.2.2 x1 x2 x3 (fun u54 =>
            K (1 : Int32) (u54.1, u54.2.1, u54.2.2))) ∧
        ((r38 = x3) →
          K (0 : Int32) (u38.1, u38.2.1, u38.2.2)))) ∧
      (¬ (r24 = 0) →
        wpX10_wall_b30 u24.1 u24.2.1 u24.2.2 K))))))
def wpX10_wall (F : Nat → Nat → Int32) (L : Nat → Nat → Int64) (r : Nat → Nat → Nat) (x1 : Int32) (x2 : Int32) (x3 : Int32) (K : Int32 → cS → Prop) : Prop := wpX10_wall_b0 F L r x1 x2 x3 K
def wpX10_bell_b0 (F : Nat → Nat → Int32) (L : Nat → Nat → Int64) (r : Nat → Nat → Nat) (x1 : Int32) (K : Int32 → cS → Prop) : Prop :=
  wpX1_has 46 F L r x1 (fun r5 u5 =>
    (¬ (r5 = 0) →
    K (1 : Int32) (pt u5.1 46 3 x1, u5.2.1, u5.2.2)) ∧
  ((r5 = 0) →
    K (0 : Int32) (u5.1, u5.2.1, u5.2.2)))
def wpX10_bell (F : Nat → Nat → Int32) (L : Nat → Nat → Int64) (r : Nat → Nat → Nat) (x1 : Int32) (K : Int32 → cS → Prop) : Prop := wpX10_bell_b0 F L r x1 K
def wpX10_lift_b18 (F : Nat → Nat → Int32) (L : Nat → Nat → Int64) (r : Nat → Nat → Nat) (K : Int32 → cS → Prop) : Prop :=
  K (0 : Int32) (F, L, r)
def wpX10_lift_b0 (F : Nat → Nat → Int32) (L : Nat → Nat → Int64) (r : Nat → Nat → Nat) (x1 : Int32) (x2 : Int32) (K : Int32 → cS → Prop) : Prop :=
  wpX1_has 46 F L r x1 (fun r5 u5 =>
    ((r5 = 0) →
    wpX10_lift_b18 u5.1 u5.2.1 u5.2.2 K) ∧
  (¬ (r5 = 0) →
    wpX10_isSide x2 (fun r12 u12 =>
      (¬ (r12 = 0) →
      K (1 : Int32) (pt (pt u5.1 74 0 x1) 74 1 x2, u5.2.1, u5.2.2)) ∧
    ((r12 = 0) →
      wpX10_lift_b18 u5.1 u5.2.1 u5.2.2 K))))
def wpX10_lift (F : Nat → Nat → Int32) (L : Nat → Nat → Int64) (r : Nat → Nat → Nat) (x1 : Int32) (x2 : Int32) (K : Int32 → cS → Prop) : Prop := wpX10_lift_b0 F L r x1 x2 K
def wpJ13_bitCount_95d88_b0 (x0 : Int64) (K : Int32 → Unit → Prop) : Prop :=
  ∀ y9 : Int64, y9 = x0 - ((jlushr x0 (1 : Int32)) &&& (6148914691236517205 : Int64)) → ∀ y23 : Int64, y23 = (y9 &&& (3689348814741910323 : Int64)) + ((jlushr y9 (2 : Int32)) &&& (3689348814741910323 : Int64)) → ∀ y33 : Int64, y33 = (y23 + (jlushr y23 (4 : Int32))) &&& (1085102592571150095 : Int64) → ∀ y47 : Int64, y47 = (y33 + (jlushr y33 (8 : Int32))) + (jlushr (y33 + (jlushr y33 (8 : Int32))) (16 : Int32)) → K ((Int64.toInt32 (y47 + (jlushr y47 (32 : Int32)))) &&& (127 : Int32)) ()
def wpJ13_bitCount_95d88 (x0 : Int64) (K : Int32 → Unit → Prop) : Prop := wpJ13_bitCount_95d88_b0  x0 K
def wpX3_markedSquares_b12_body (B12 : (Nat → Nat → Int32) → (Nat → Nat → Int64) → (Nat → Nat → Nat) → Int64 → Int32 → Prop) (a0 : Nat) (F : Nat → Nat → Int32) (L : Nat → Nat → Int64) (r : Nat → Nat → Nat) (x1 : Int64) (x3 : Int32) (K : Int32 → cS → Prop) : Prop :=
  (((3 : Int32) ≤ x3) →
    wpJ13_bitCount_95d88 x1 (fun r33 u33 =>
      K r33 (F, L, r))) ∧
  (¬ ((3 : Int32) ≤ x3) →
    vp_in x3 3 ∧ B12 F L r (x1 ||| (L (a0 + 1) (ix x3))) (x3 + (1 : Int32)))
def wpX3_markedSquares_b12 (a0 : Nat) (n_ : Nat) (F : Nat → Nat → Int32) (L : Nat → Nat → Int64) (r : Nat → Nat → Nat) (x1 : Int64) (x3 : Int32) (K : Int32 → cS → Prop) : Prop := match n_ with
  | 0 => False
  | n + 1 => wpX3_markedSquares_b12_body (fun F L r x1 x3 => wpX3_markedSquares_b12 a0 n F L r x1 x3 K) a0 F L r x1 x3 K
def wpX3_markedSquares_b0 (a0 : Nat) (F : Nat → Nat → Int32) (L : Nat → Nat → Int64) (r : Nat → Nat → Nat) (K : Int32 → cS → Prop) : Prop :=
  ∃ n, wpX3_markedSquares_b12 a0 n F L r ((L a0 4) ||| (L a0 5)) (0 : Int32) K
def wpX3_markedSquares (a0 : Nat) (F : Nat → Nat → Int32) (L : Nat → Nat → Int64) (r : Nat → Nat → Nat) (K : Int32 → cS → Prop) : Prop := wpX3_markedSquares_b0 a0 F L r K
def wpX10_wipe_b0 (F : Nat → Nat → Int32) (L : Nat → Nat → Int64) (r : Nat → Nat → Nat) (K : Int32 → cS → Prop) : Prop :=
  wpX3_markedSquares 74 F L r (fun r4 u4 =>
    wpX3_clearSquares 74 u4.1 u4.2.1 u4.2.2 (fun u12 =>
    wpX0_release 43 (pt (pt u12.1 74 2 (0 : Int32)) 74 3 (0 : Int32)) u12.2.1 u12.2.2 (fun u35 =>
    K r4 (u35.1, u35.2.1, u35.2.2))))
def wpX10_wipe (F : Nat → Nat → Int32) (L : Nat → Nat → Int64) (r : Nat → Nat → Nat) (K : Int32 → cS → Prop) : Prop := wpX10_wipe_b0 F L r K
def wpX3_yesesOf_b4_body (B4 : (Nat → Nat → Int32) → (Nat → Nat → Int64) → (Nat → Nat → Nat) → Int32 → Int32 → Int32 → Prop) (a0 : Nat) (F : Nat → Nat → Int32) (L : Nat → Nat → Int64) (r : Nat → Nat → Nat) (x1 : Int32) (x2 : Int32) (x3 : Int32) (K : Int32 → cS → Prop) : Prop :=
  (((3 : Int32) ≤ x3) →
    K x2 (F, L, r)) ∧
  (¬ ((3 : Int32) ≤ x3) →
    vp_in x3 3 ∧ ∀ y24 : Int32, y24 = x2 ||| (jshl (Int64.toInt32 ((jlushr (L (a0 + 1) (ix x3)) x1) &&& (1 : Int64))) x3) → B4 F L r x1 y24 (x3 + (1 : Int32)))
def wpX3_yesesOf_b4 (a0 : Nat) (n_ : Nat) (F : Nat → Nat → Int32) (L : Nat → Nat → Int64) (r : Nat → Nat → Nat) (x1 : Int32) (x2 : Int32) (x3 : Int32) (K : Int32 → cS → Prop) : Prop := match n_ with
  | 0 => False
  | n + 1 => wpX3_yesesOf_b4_body (fun F L r x1 x2 x3 => wpX3_yesesOf_b4 a0 n F L r x1 x2 x3 K) a0 F L r x1 x2 x3 K
def wpX3_yesesOf_b0 (a0 : Nat) (F : Nat → Nat → Int32) (L : Nat → Nat → Int64) (r : Nat → Nat → Nat) (x1 : Int32) (K : Int32 → cS → Prop) : Prop :=
  ∃ n, wpX3_yesesOf_b4 a0 n F L r x1 (0 : Int32) (0 : Int32) K
def wpX3_yesesOf (a0 : Nat) (F : Nat → Nat → Int32) (L : Nat → Nat → Int64) (r : Nat → Nat → Nat) (x1 : Int32) (K : Int32 → cS → Prop) : Prop := wpX3_yesesOf_b0 a0 F L r x1 K
def wpX3_wayOf_b0 (a0 : Nat) (F : Nat → Nat → Int32) (L : Nat → Nat → Int64) (r : Nat → Nat → Nat) (x1 : Int32) (K : Int32 → cS → Prop) : Prop :=
  K ((Int64.toInt32 ((jlushr (L a0 4) x1) &&& (1 : Int64))) + ((2 : Int32) * (Int64.toInt32 ((jlushr (L a0 5) x1) &&& (1 : Int64))))) (F, L, r)
def wpX3_wayOf (a0 : Nat) (F : Nat → Nat → Int32) (L : Nat → Nat → Int64) (r : Nat → Nat → Nat) (x1 : Int32) (K : Int32 → cS → Prop) : Prop := wpX3_wayOf_b0 a0 F L r x1 K
def wpX3_signs_b78 (a0 : Nat) (a1 : Nat) (F : Nat → Nat → Int32) (L : Nat → Nat → Int64) (r : Nat → Nat → Nat) (x2 : Int32) (K : Int32 → cS → Prop) : Prop :=
  K x2 (F, L, r)
def wpX3_signs_b57 (a0 : Nat) (a1 : Nat) (F : Nat → Nat → Int32) (L : Nat → Nat → Int64) (r : Nat → Nat → Nat) (x2 : Int32) (K : Int32 → cS → Prop) : Prop :=
  wpX3_wayOf a0 F L r (F a0 0) (fun r66 u66 =>
    (¬ ((F a0 1) = r66) →
    wpX3_signs_b78 a0 a1 u66.1 u66.2.1 u66.2.2 x2 K) ∧
  (((F a0 1) = r66) →
    wpX3_signs_b78 a0 a1 u66.1 u66.2.1 u66.2.2 (x2 ||| (4096 : Int32)) K))
def wpX3_signs_b40 (a0 : Nat) (a1 : Nat) (F : Nat → Nat → Int32) (L : Nat → Nat → Int64) (r : Nat → Nat → Nat) (x2 : Int32) (K : Int32 → cS → Prop) : Prop :=
  (¬ ((F a0 0) = (F a1 3)) →
    wpX3_signs_b57 a0 a1 F L r x2 K) ∧
  (((F a0 0) = (F a1 3)) →
    wpX3_signs_b57 a0 a1 F L r (x2 ||| (2048 : Int32)) K)
def wpX3_signs_b0 (a0 : Nat) (a1 : Nat) (F : Nat → Nat → Int32) (L : Nat → Nat → Int64) (r : Nat → Nat → Nat) (K : Int32 → cS → Prop) : Prop :=
  wpX3_yesesOf a0 F L r (F a0 0) (fun r11 u11 =>
    ∀ y18 : Int32, y18 = (jshl (1 : Int32) (F a0 2)) ||| (jshl r11 (13 : Int32)) → wpX1_isWalled a1 u11.1 u11.2.1 u11.2.2 (u11.1 a0 0) (u11.1 a0 1) (fun r28 u28 =>
    ((r28 = 0) →
    wpX3_signs_b40 a0 a1 u28.1 u28.2.1 u28.2.2 y18 K) ∧
  (¬ (r28 = 0) →
    wpX3_signs_b40 a0 a1 u28.1 u28.2.1 u28.2.2 (y18 ||| (1024 : Int32)) K)))
def wpX3_signs (a0 : Nat) (a1 : Nat) (F : Nat → Nat → Int32) (L : Nat → Nat → Int64) (r : Nat → Nat → Nat) (K : Int32 → cS → Prop) : Prop := wpX3_signs_b0 a0 a1 F L r K
def wpX6_lineFor_b50 (B2 : (Nat → Nat → Int32) → (Nat → Nat → Int64) → (Nat → Nat → Nat) → Int32 → Int32 → Int32 → Prop) (a0 : Nat) (F : Nat → Nat → Int32) (L : Nat → Nat → Int64) (r : Nat → Nat → Nat) (x1 : Int32) (x2 : Int32) (x3 : Int32) (K : Int32 → cS → Prop) : Prop :=
  B2 F L r x1 x2 (x3 + (1 : Int32))
def wpX6_lineFor_b2_body (B2 : (Nat → Nat → Int32) → (Nat → Nat → Int64) → (Nat → Nat → Nat) → Int32 → Int32 → Int32 → Prop) (a0 : Nat) (F : Nat → Nat → Int32) (L : Nat → Nat → Int64) (r : Nat → Nat → Nat) (x1 : Int32) (x2 : Int32) (x3 : Int32) (K : Int32 → cS → Prop) : Prop :=
  (((F a0 0) ≤ x3) →
    K (-1 : Int32) (F, L, r)) ∧
  (¬ ((F a0 0) ≤ x3) →
    vp_in x3 30 ∧ vp_in x3 30 ∧ (¬ (((x1 ^^^ (F (a0 + 4) (ix x3))) &&& (F (a0 + 3) (ix x3))) = 0) →
      wpX6_lineFor_b50 B2 a0 F L r x1 x2 x3 K) ∧
    ((((x1 ^^^ (F (a0 + 4) (ix x3))) &&& (F (a0 + 3) (ix x3))) = 0) →
      vp_in x3 30 ∧ ((x2 < (F (a0 + 5) (ix x3))) →
        wpX6_lineFor_b50 B2 a0 F L r x1 x2 x3 K) ∧
      (¬ (x2 < (F (a0 + 5) (ix x3))) →
        vp_in x3 30 ∧ (((F (a0 + 6) (ix x3)) ≤ x2) →
          wpX6_lineFor_b50 B2 a0 F L r x1 x2 x3 K) ∧
        (¬ ((F (a0 + 6) (ix x3)) ≤ x2) →
          K x3 (F, L, r)))))
def wpX6_lineFor_b2 (a0 : Nat) (n_ : Nat) (F : Nat → Nat → Int32) (L : Nat → Nat → Int64) (r : Nat → Nat → Nat) (x1 : Int32) (x2 : Int32) (x3 : Int32) (K : Int32 → cS → Prop) : Prop := match n_ with
  | 0 => False
  | n + 1 => wpX6_lineFor_b2_body (fun F L r x1 x2 x3 => wpX6_lineFor_b2 a0 n F L r x1 x2 x3 K) a0 F L r x1 x2 x3 K
def wpX6_lineFor_b0 (a0 : Nat) (F : Nat → Nat → Int32) (L : Nat → Nat → Int64) (r : Nat → Nat → Nat) (x1 : Int32) (x2 : Int32) (K : Int32 → cS → Prop) : Prop :=
  ∃ n, wpX6_lineFor_b2 a0 n F L r x1 x2 (0 : Int32) K
def wpX6_lineFor (a0 : Nat) (F : Nat → Nat → Int32) (L : Nat → Nat → Int64) (r : Nat → Nat → Nat) (x1 : Int32) (x2 : Int32) (K : Int32 → cS → Prop) : Prop := wpX6_lineFor_b0 a0 F L r x1 x2 K
def wpX3_turn_b0 (a0 : Nat) (F : Nat → Nat → Int32) (L : Nat → Nat → Int64) (r : Nat → Nat → Nat) (x1 : Int32) (K : cS → Prop) : Prop :=
  K (pt F a0 1 (((F a0 1) + x1) &&& (3 : Int32)), L, r)
def wpX3_turn (a0 : Nat) (F : Nat → Nat → Int32) (L : Nat → Nat → Int64) (r : Nat → Nat → Nat) (x1 : Int32) (K : cS → Prop) : Prop := wpX3_turn_b0 a0 F L r x1 K
def wpX3_markWay_b68 (a0 : Nat) (F : Nat → Nat → Int32) (L : Nat → Nat → Int64) (r : Nat → Nat → Nat) (k1 : Int64) (K : cS → Prop) : Prop :=
  K (F, ptL L a0 5 k1, r)
def wpX3_markWay_b36 (a0 : Nat) (F : Nat → Nat → Int32) (L : Nat → Nat → Int64) (r : Nat → Nat → Nat) (k1 : Int64) (x1 : Int64) (K : cS → Prop) : Prop :=
  ((((F a0 1) &&& (2 : Int32)) = 0) →
    wpX3_markWay_b68 a0 F (ptL L a0 4 k1) r (((ptL L a0 4 k1) a0 5) &&& (x1 ^^^ (-1 : Int64))) K) ∧
  (¬ (((F a0 1) &&& (2 : Int32)) = 0) →
    wpX3_markWay_b68 a0 F (ptL L a0 4 k1) r (((ptL L a0 4 k1) a0 5) ||| x1) K)
def wpX3_markWay_b0 (a0 : Nat) (F : Nat → Nat → Int32) (L : Nat → Nat → Int64) (r : Nat → Nat → Nat) (K : cS → Prop) : Prop :=
  ((((F a0 1) &&& (1 : Int32)) = 0) →
    wpX3_markWay_b36 a0 F L r ((L a0 4) &&& ((jlshl (1 : Int64) (F a0 0)) ^^^ (-1 : Int64))) (jlshl (1 : Int64) (F a0 0)) K) ∧
  (¬ (((F a0 1) &&& (1 : Int32)) = 0) →
    wpX3_markWay_b36 a0 F L r ((L a0 4) ||| (jlshl (1 : Int64) (F a0 0))) (jlshl (1 : Int64) (F a0 0)) K)
def wpX3_markWay (a0 : Nat) (F : Nat → Nat → Int32) (L : Nat → Nat → Int64) (r : Nat → Nat → Nat) (K : cS → Prop) : Prop := wpX3_markWay_b0 a0 F L r K
def wpX3_advance_b50 (a0 : Nat) (a1 : Nat) (F : Nat → Nat → Int32) (L : Nat → Nat → Int64) (r : Nat → Nat → Nat) (K : cS → Prop) : Prop :=
  K (F, L, r)
def wpX3_advance_b0 (a0 : Nat) (a1 : Nat) (F : Nat → Nat → Int32) (L : Nat → Nat → Int64) (r : Nat → Nat → Nat) (K : cS → Prop) : Prop :=
  vp_in ((F a0 1) &&& (3 : Int32)) 4 ∧ (¬ ((lg_cmp ((jlushr (L (a1 + 1) (ix ((F a0 1) &&& (3 : Int32)))) (F a0 0)) &&& (1 : Int64)) (0 : Int64)) = 0) →
    wpX3_advance_b50 a0 a1 F L r K) ∧
  (((lg_cmp ((jlushr (L (a1 + 1) (ix ((F a0 1) &&& (3 : Int32)))) (F a0 0)) &&& (1 : Int64)) (0 : Int64)) = 0) →
    vp_in ((F a0 1) &&& (3 : Int32)) 4 ∧ wpX3_advance_b50 a0 a1 (pt (pt F a0 0 ((F a0 0) + (F (a1 + 2) (ix ((F a0 1) &&& (3 : Int32)))))) a0 7 (((pt F a0 0 ((F a0 0) + (F (a1 + 2) (ix ((F a0 1) &&& (3 : Int32)))))) a0 7) + (1 : Int32))) L r K)
def wpX3_advance (a0 : Nat) (a1 : Nat) (F : Nat → Nat → Int32) (L : Nat → Nat → Int64) (r : Nat → Nat → Nat) (K : cS → Prop) : Prop := wpX3_advance_b0 a0 a1 F L r K
def wpX3_markYes_b9 (a0 : Nat) (F : Nat → Nat → Int32) (L : Nat → Nat → Int64) (r : Nat → Nat → Nat) (K : cS → Prop) : Prop :=
  K (F, L, r)
def wpX3_markYes_b62 (a0 : Nat) (F : Nat → Nat → Int32) (L : Nat → Nat → Int64) (r : Nat → Nat → Nat) (K : cS → Prop) : Prop :=
  K (F, L, r)
def wpX3_markYes_b0 (a0 : Nat) (F : Nat → Nat → Int32) (L : Nat → Nat → Int64) (r : Nat → Nat → Nat) (x1 : Int32) (x2 : Int32) (K : cS → Prop) : Prop :=
  ((x1 < 0) →
    wpX3_markYes_b9 a0 F L r K) ∧
  (¬ (x1 < 0) →
    ((x1 < (3 : Int32)) →
      (¬ (x2 = 0) →
        (¬ (((jshr (F a0 8) x1) &&& (1 : Int32)) = 0) →
          wpX3_markYes_b62 a0 F L r K) ∧
        ((((jshr (F a0 8) x1) &&& (1 : Int32)) = 0) →
          vp_in x1 3 ∧ vp_in x1 3 ∧ wpX3_markYes_b62 a0 F (ptL L (a0 + 1) (ix x1) ((L (a0 + 1) (ix x1)) ||| (jlshl (1 : Int64) (F a0 0)))) r K)) ∧
      ((x2 = 0) →
        vp_in x1 3 ∧ vp_in x1 3 ∧ wpX3_markYes_b62 a0 F (ptL L (a0 + 1) (ix x1) ((L (a0 + 1) (ix x1)) &&& ((jlshl (1 : Int64) (F a0 0)) ^^^ (-1 : Int64)))) r K)) ∧
    (¬ (x1 < (3 : Int32)) →
      wpX3_markYes_b9 a0 F L r K))
def wpX3_markYes (a0 : Nat) (F : Nat → Nat → Int32) (L : Nat → Nat → Int64) (r : Nat → Nat → Nat) (x1 : Int32) (x2 : Int32) (K : cS → Prop) : Prop := wpX3_markYes_b0 a0 F L r x1 x2 K
def wpX3_perform_b178 (a0 : Nat) (a2 : Nat) (F : Nat → Nat → Int32) (L : Nat → Nat → Int64) (r : Nat → Nat → Nat) (K : cS → Prop) : Prop :=
  K (F, L, r)
def wpX3_perform_b0 (a0 : Nat) (a2 : Nat) (F : Nat → Nat → Int32) (L : Nat → Nat → Int64) (r : Nat → Nat → Nat) (x1 : Int32) (K : cS → Prop) : Prop :=
  ((jshr x1 (4 : Int32)) = (8 : Int32) →
    wpX3_perform_b178 a0 a2 (pt F a0 2 (x1 &&& (15 : Int32))) L r K) ∧
  ((jshr x1 (4 : Int32)) = (9 : Int32) →
    wpX3_markYes a0 F L r (x1 &&& (15 : Int32)) (1 : Int32) (fun u125 =>
        wpX3_perform_b178 a0 a2 u125.1 u125.2.1 u125.2.2 K)) ∧
  ((jshr x1 (4 : Int32)) = (10 : Int32) →
    wpX3_markYes a0 F L r (x1 &&& (15 : Int32)) (0 : Int32) (fun u134 =>
        wpX3_perform_b178 a0 a2 u134.1 u134.2.1 u134.2.2 K)) ∧
  ((jshr x1 (4 : Int32)) = (11 : Int32) →
    wpX3_turn a0 F L r (1 : Int32) (fun u70 =>
        wpX3_perform_b178 a0 a2 u70.1 u70.2.1 u70.2.2 K)) ∧
  ((jshr x1 (4 : Int32)) = (12 : Int32) →
    wpX3_turn a0 F L r (3 : Int32) (fun u78 =>
        wpX3_perform_b178 a0 a2 u78.1 u78.2.1 u78.2.2 K)) ∧
  ((jshr x1 (4 : Int32)) = (13 : Int32) →
    wpX3_turn a0 F L r (2 : Int32) (fun u86 =>
        wpX3_perform_b178 a0 a2 u86.1 u86.2.1 u86.2.2 K)) ∧
  ((jshr x1 (4 : Int32)) = (14 : Int32) →
    wpX3_wayOf a0 F L r (F a0 0) (fun r98 u98 =>
        wpX3_perform_b178 a0 a2 (pt u98.1 a0 1 r98) u98.2.1 u98.2.2 K)) ∧
  ((jshr x1 (4 : Int32)) = (15 : Int32) →
    wpX3_markWay a0 F L r (fun u108 =>
        wpX3_perform_b178 a0 a2 u108.1 u108.2.1 u108.2.2 K)) ∧
  ((jshr x1 (4 : Int32)) = (16 : Int32) →
    wpX3_advance a0 a2 F L r (fun u116 =>
        wpX3_perform_b178 a0 a2 u116.1 u116.2.1 u116.2.2 K)) ∧
  ((jshr x1 (4 : Int32)) = (17 : Int32) →
    wpX3_perform_b178 a0 a2 (pt F a0 3 (jmin (99 : Int32) ((F a0 3) + (1 : Int32)))) L r K) ∧
  ((jshr x1 (4 : Int32)) = (18 : Int32) →
    wpX3_perform_b178 a0 a2 (pt F a0 3 (0 : Int32)) L r K) ∧
  ((jshr x1 (4 : Int32)).toInt < 8 ∨ 18 < (jshr x1 (4 : Int32)).toInt →
    wpX3_clearSquares a0 F L r (fun u175 =>
      wpX3_perform_b178 a0 a2 u175.1 u175.2.1 u175.2.2 K))
def wpX3_perform (a0 : Nat) (a2 : Nat) (F : Nat → Nat → Int32) (L : Nat → Nat → Int64) (r : Nat → Nat → Nat) (x1 : Int32) (K : cS → Prop) : Prop := wpX3_perform_b0 a0 a2 F L r x1 K
def wpX3_obey_b44_body (B44 : (Nat → Nat → Int32) → (Nat → Nat → Int64) → (Nat → Nat → Nat) → Int32 → Int32 → Prop) (a0 : Nat) (a1 : Nat) (a2 : Nat) (F : Nat → Nat → Int32) (L : Nat → Nat → Int64) (r : Nat → Nat → Nat) (x3 : Int32) (x4 : Int32) (K : cS → Prop) : Prop :=
  ((x3 ≤ x4) →
    K (F, L, r)) ∧
  (¬ (x3 ≤ x4) →
    vp_in x4 360 ∧ wpX3_perform a0 a2 F L r (F (a1 + 1) (ix x4)) (fun u59 =>
      B44 u59.1 u59.2.1 u59.2.2 x3 (x4 + (1 : Int32))))
def wpX3_obey_b44 (a0 : Nat) (a1 : Nat) (a2 : Nat) (n_ : Nat) (F : Nat → Nat → Int32) (L : Nat → Nat → Int64) (r : Nat → Nat → Nat) (x3 : Int32) (x4 : Int32) (K : cS → Prop) : Prop := match n_ with
  | 0 => False
  | n + 1 => wpX3_obey_b44_body (fun F L r x3 x4 => wpX3_obey_b44 a0 a1 a2 n F L r x3 x4 K) a0 a1 a2 F L r x3 x4 K
def wpX3_obey_b0 (a0 : Nat) (a1 : Nat) (a2 : Nat) (F : Nat → Nat → Int32) (L : Nat → Nat → Int64) (r : Nat → Nat → Nat) (K : cS → Prop) : Prop :=
  wpX3_signs a0 a2 F L r (fun r4 u4 =>
    wpX6_lineFor a1 u4.1 u4.2.1 u4.2.2 r4 (u4.1 a0 3) (fun r11 u11 =>
    ((0 ≤ ((pt u11.1 a0 6 r11) a0 6)) →
    vp_in ((pt u11.1 a0 6 r11) a0 6) 30 ∧ ∀ y34 : Int32, y34 = (pt u11.1 a0 6 r11) (a1 + 2) (ix ((pt u11.1 a0 6 r11) a0 6)) → ∃ n, wpX3_obey_b44 a0 a1 a2 n (pt u11.1 a0 6 r11) u11.2.1 u11.2.2 y34 (((pt u11.1 a0 6 r11) a0 6) * (12 : Int32)) K) ∧
  (¬ (0 ≤ ((pt u11.1 a0 6 r11) a0 6)) →
    K (pt u11.1 a0 6 r11, u11.2.1, u11.2.2))))
def wpX3_obey (a0 : Nat) (a1 : Nat) (a2 : Nat) (F : Nat → Nat → Int32) (L : Nat → Nat → Int64) (r : Nat → Nat → Nat) (K : cS → Prop) : Prop := wpX3_obey_b0 a0 a1 a2 F L r K
def wpX10_tick_b11 (F : Nat → Nat → Int32) (L : Nat → Nat → Int64) (r : Nat → Nat → Nat) (K : Int32 → cS → Prop) : Prop :=
  K (-1 : Int32) (F, L, r)
def wpX10_tick_b51 (B17 : (Nat → Nat → Int32) → (Nat → Nat → Int64) → (Nat → Nat → Nat) → Int32 → Int32 → Int32 → Prop) (F : Nat → Nat → Int32) (L : Nat → Nat → Int64) (r : Nat → Nat → Nat) (x1 : Int32) (x2 : Int32) (x3 : Int32) (K : Int32 → cS → Prop) : Prop :=
  B17 F L r x1 x2 (x3 + (1 : Int32))
def wpX10_tick_b17_body (B17 : (Nat → Nat → Int32) → (Nat → Nat → Int64) → (Nat → Nat → Nat) → Int32 → Int32 → Int32 → Prop) (F : Nat → Nat → Int32) (L : Nat → Nat → Int64) (r : Nat → Nat → Nat) (x1 : Int32) (x2 : Int32) (x3 : Int32) (K : Int32 → cS → Prop) : Prop :=
  ((x1 ≤ x3) →
    K x2 (F, L, r)) ∧
  (¬ (x1 ≤ x3) →
    kd (r 0 3) = 6 ∧ wpX3_obey 74 (r 0 3) 46 F L r (fun u34 =>
      (((u34.1 74 6) = (-1 : Int32)) →
      wpX10_tick_b51 B17 u34.1 u34.2.1 u34.2.2 x1 x2 x3 K) ∧
    (¬ ((u34.1 74 6) = (-1 : Int32)) →
      wpX10_tick_b51 B17 u34.1 u34.2.1 u34.2.2 x1 (x2 + (1 : Int32)) x3 K)))
def wpX10_tick_b17 (n_ : Nat) (F : Nat → Nat → Int32) (L : Nat → Nat → Int64) (r : Nat → Nat → Nat) (x1 : Int32) (x2 : Int32) (x3 : Int32) (K : Int32 → cS → Prop) : Prop := match n_ with
  | 0 => False
  | n + 1 => wpX10_tick_b17_body (fun F L r x1 x2 x3 => wpX10_tick_b17 n F L r x1 x2 x3 K) F L r x1 x2 x3 K
def wpX10_tick_b0 (F : Nat → Nat → Int32) (L : Nat → Nat → Int64) (r : Nat → Nat → Nat) (x1 : Int32) (K : Int32 → cS → Prop) : Prop :=
  ((x1 < 0) →
    wpX10_tick_b11 F L r K) ∧
  (¬ (x1 < 0) →
    ((x1 ≤ (5000 : Int32)) →
      ∃ n, wpX10_tick_b17 n F L r x1 (0 : Int32) (0 : Int32) K) ∧
    (¬ (x1 ≤ (5000 : Int32)) →
      wpX10_tick_b11 F L r K))
def wpX10_tick (F : Nat → Nat → Int32) (L : Nat → Nat → Int64) (r : Nat → Nat → Nat) (x1 : Int32) (K : Int32 → cS → Prop) : Prop := wpX10_tick_b0 F L r x1 K
def wpX3_arrive_b63 (a0 : Nat) (a1 : Nat) (a2 : Nat) (F : Nat → Nat → Int32) (L : Nat → Nat → Int64) (r : Nat → Nat → Nat) (k0 : Int32) (K : Int32 → cS → Prop) : Prop :=
  K k0 (F, L, r)
def wpX3_arrive_b3_body (B3 : (Nat → Nat → Int32) → (Nat → Nat → Int64) → (Nat → Nat → Nat) → Int32 → Int32 → Prop) (a0 : Nat) (a1 : Nat) (a2 : Nat) (F : Nat → Nat → Int32) (L : Nat → Nat → Int64) (r : Nat → Nat → Nat) (x3 : Int32) (x4 : Int32) (K : Int32 → cS → Prop) : Prop :=
  ((x3 ≤ x4) →
    (¬ ((F a0 0) = (F a2 3)) →
      wpX3_arrive_b63 a0 a1 a2 F L r (-2 : Int32) K) ∧
    (((F a0 0) = (F a2 3)) →
      wpX3_arrive_b63 a0 a1 a2 F L r x3 K)) ∧
  (¬ (x3 ≤ x4) →
    (¬ ((F a0 0) = (F a2 3)) →
      wpX3_obey a0 a1 a2 F L r (fun u26 =>
        (¬ ((u26.1 a0 6) = (-1 : Int32)) →
        B3 u26.1 u26.2.1 u26.2.2 x3 (x4 + (1 : Int32))) ∧
      (((u26.1 a0 6) = (-1 : Int32)) →
        K (-2 : Int32) (u26.1, u26.2.1, u26.2.2)))) ∧
    (((F a0 0) = (F a2 3)) →
      K x4 (F, L, r)))
def wpX3_arrive_b3 (a0 : Nat) (a1 : Nat) (a2 : Nat) (n_ : Nat) (F : Nat → Nat → Int32) (L : Nat → Nat → Int64) (r : Nat → Nat → Nat) (x3 : Int32) (x4 : Int32) (K : Int32 → cS → Prop) : Prop := match n_ with
  | 0 => False
  | n + 1 => wpX3_arrive_b3_body (fun F L r x3 x4 => wpX3_arrive_b3 a0 a1 a2 n F L r x3 x4 K) a0 a1 a2 F L r x3 x4 K
def wpX3_arrive_b0 (a0 : Nat) (a1 : Nat) (a2 : Nat) (F : Nat → Nat → Int32) (L : Nat → Nat → Int64) (r : Nat → Nat → Nat) (x3 : Int32) (K : Int32 → cS → Prop) : Prop :=
  ∃ n, wpX3_arrive_b3 a0 a1 a2 n F L r x3 (0 : Int32) K
def wpX3_arrive (a0 : Nat) (a1 : Nat) (a2 : Nat) (F : Nat → Nat → Int32) (L : Nat → Nat → Int64) (r : Nat → Nat → Nat) (x3 : Int32) (K : Int32 → cS → Prop) : Prop := wpX3_arrive_b0 a0 a1 a2 F L r x3 K
def wpX10_run_b11 (F : Nat → Nat → Int32) (L : Nat → Nat → Int64) (r : Nat → Nat → Nat) (K : Int32 → cS → Prop) : Prop :=
  K (-1 : Int32) (F, L, r)
def wpX10_run_b0 (F : Nat → Nat → Int32) (L : Nat → Nat → Int64) (r : Nat → Nat → Nat) (x1 : Int32) (K : Int32 → cS → Prop) : Prop :=
  ((x1 < 0) →
    wpX10_run_b11 F L r K) ∧
  (¬ (x1 < 0) →
    ((x1 ≤ (5000 : Int32)) →
      kd (r 0 3) = 6 ∧ wpX3_arrive 74 (r 0 3) 46 F L r x1 (fun r26 u26 =>
        K r26 (u26.1, u26.2.1, u26.2.2))) ∧
    (¬ (x1 ≤ (5000 : Int32)) →
      wpX10_run_b11 F L r K))
def wpX10_run (F : Nat → Nat → Int32) (L : Nat → Nat → Int64) (r : Nat → Nat → Nat) (x1 : Int32) (K : Int32 → cS → Prop) : Prop := wpX10_run_b0 F L r x1 K
def wpX10_mouse_b0 (F : Nat → Nat → Int32) (L : Nat → Nat → Int64) (r : Nat → Nat → Nat) (x1 : Int32) (K : Int32 → cS → Prop) : Prop :=
  (x1 = (0 : Int32) →
    K (F 74 0) (F, L, r)) ∧
  (x1 = (1 : Int32) →
    K (F 74 1) (F, L, r)) ∧
  (x1 = (2 : Int32) →
    K (F 74 2) (F, L, r)) ∧
  (x1 = (3 : Int32) →
    K (F 74 3) (F, L, r)) ∧
  (x1 = (4 : Int32) →
    K (F 74 6) (F, L, r)) ∧
  ((x1).toInt < 0 ∨ 4 < (x1).toInt →
    K (-1 : Int32) (F, L, r))
def wpX10_mouse (F : Nat → Nat → Int32) (L : Nat → Nat → Int64) (r : Nat → Nat → Nat) (x1 : Int32) (K : Int32 → cS → Prop) : Prop := wpX10_mouse_b0 F L r x1 K
def wpX1_wallsOf_b24 (B4 : (Nat → Nat → Int32) → (Nat → Nat → Int64) → (Nat → Nat → Nat) → Int32 → Int32 → Int32 → Prop) (a0 : Nat) (F : Nat → Nat → Int32) (L : Nat → Nat → Int64) (r : Nat → Nat → Nat) (x1 : Int32) (x2 : Int32) (x3 : Int32) (K : Int32 → cS → Prop) : Prop :=
  B4 F L r x1 x2 (x3 + (1 : Int32))
def wpX1_wallsOf_b4_body (B4 : (Nat → Nat → Int32) → (Nat → Nat → Int64) → (Nat → Nat → Nat) → Int32 → Int32 → Int32 → Prop) (a0 : Nat) (F : Nat → Nat → Int32) (L : Nat → Nat → Int64) (r : Nat → Nat → Nat) (x1 : Int32) (x2 : Int32) (x3 : Int32) (K : Int32 → cS → Prop) : Prop :=
  (((4 : Int32) ≤ x3) →
    K x2 (F, L, r)) ∧
  (¬ ((4 : Int32) ≤ x3) →
    wpX1_isWalled a0 F L r x1 x3 (fun r12 u12 =>
      ((r12 = 0) →
      wpX1_wallsOf_b24 B4 a0 u12.1 u12.2.1 u12.2.2 x1 x2 x3 K) ∧
    (¬ (r12 = 0) →
      wpX1_wallsOf_b24 B4 a0 u12.1 u12.2.1 u12.2.2 x1 (x2 ||| (jshl (1 : Int32) x3)) x3 K)))
def wpX1_wallsOf_b4 (a0 : Nat) (n_ : Nat) (F : Nat → Nat → Int32) (L : Nat → Nat → Int64) (r : Nat → Nat → Nat) (x1 : Int32) (x2 : Int32) (x3 : Int32) (K : Int32 → cS → Prop) : Prop := match n_ with
  | 0 => False
  | n + 1 => wpX1_wallsOf_b4_body (fun F L r x1 x2 x3 => wpX1_wallsOf_b4 a0 n F L r x1 x2 x3 K) a0 F L r x1 x2 x3 K
def wpX1_wallsOf_b0 (a0 : Nat) (F : Nat → Nat → Int32) (L : Nat → Nat → Int64) (r : Nat → Nat → Nat) (x1 : Int32) (K : Int32 → cS → Prop) : Prop :=
  ∃ n, wpX1_wallsOf_b4 a0 n F L r x1 (0 : Int32) (0 : Int32) K
def wpX1_wallsOf (a0 : Nat) (F : Nat → Nat → Int32) (L : Nat → Nat → Int64) (r : Nat → Nat → Nat) (x1 : Int32) (K : Int32 → cS → Prop) : Prop := wpX1_wallsOf_b0 a0 F L r x1 K
def wpX1_spread_b0 (a0 : Nat) (F : Nat → Nat → Int32) (L : Nat → Nat → Int64) (r : Nat → Nat → Nat) (x1 : Int64) (K : Int64 → cS → Prop) : Prop :=
  vp_in (0 : Int32) 4 ∧ vp_in (1 : Int32) 4 ∧ vp_in (2 : Int32) 4 ∧ vp_in (3 : Int32) 4 ∧ K ((((x1 ||| (jlushr (x1 &&& ((L (a0 + 1) (ix (0 : Int32))) ^^^ (-1 : Int64))) (F a0 0))) ||| (jlshl (x1 &&& ((L (a0 + 1) (ix (1 : Int32))) ^^^ (-1 : Int64))) (1 : Int32))) ||| (jlshl (x1 &&& ((L (a0 + 1) (ix (2 : Int32))) ^^^ (-1 : Int64))) (F a0 0))) ||| (jlushr (x1 &&& ((L (a0 + 1) (ix (3 : Int32))) ^^^ (-1 : Int64))) (1 : Int32))) (F, L, r)
def wpX1_spread (a0 : Nat) (F : Nat → Nat → Int32) (L : Nat → Nat → Int64) (r : Nat → Nat → Nat) (x1 : Int64) (K : Int64 → cS → Prop) : Prop := wpX1_spread_b0 a0 F L r x1 K
def wpX1_far_b7_body (B7 : (Nat → Nat → Int32) → (Nat → Nat → Int64) → (Nat → Nat → Nat) → Int64 → Int32 → Prop) (a0 : Nat) (F : Nat → Nat → Int32) (L : Nat → Nat → Int64) (r : Nat → Nat → Nat) (x2 : Int64) (x4 : Int32) (K : Int32 → cS → Prop) : Prop :=
  (((F a0 2) ≤ x4) →
    K (-1 : Int32) (F, L, r)) ∧
  (¬ ((F a0 2) ≤ x4) →
    (((lg_cmp ((jlushr x2 (F a0 3)) &&& (1 : Int64)) (0 : Int64)) = 0) →
      wpX1_spread a0 F L r x2 (fun r34 u34 =>
        B7 u34.1 u34.2.1 u34.2.2 r34 (x4 + (1 : Int32)))) ∧
    (¬ ((lg_cmp ((jlushr x2 (F a0 3)) &&& (1 : Int64)) (0 : Int64)) = 0) →
      K x4 (F, L, r)))
def wpX1_far_b7 (a0 : Nat) (n_ : Nat) (F : Nat → Nat → Int32) (L : Nat → Nat → Int64) (r : Nat → Nat → Nat) (x2 : Int64) (x4 : Int32) (K : Int32 → cS → Prop) : Prop := match n_ with
  | 0 => False
  | n + 1 => wpX1_far_b7_body (fun F L r x2 x4 => wpX1_far_b7 a0 n F L r x2 x4 K) a0 F L r x2 x4 K
def wpX1_far_b0 (a0 : Nat) (F : Nat → Nat → Int32) (L : Nat → Nat → Int64) (r : Nat → Nat → Nat) (x1 : Int32) (K : Int32 → cS → Prop) : Prop :=
  ∃ n, wpX1_far_b7 a0 n F L r (jlshl (1 : Int64) x1) (0 : Int32) K
def wpX1_far (a0 : Nat) (F : Nat → Nat → Int32) (L : Nat → Nat → Int64) (r : Nat → Nat → Nat) (x1 : Int32) (K : Int32 → cS → Prop) : Prop := wpX1_far_b0 a0 F L r x1 K
def wpX10_look_b0 (F : Nat → Nat → Int32) (L : Nat → Nat → Int64) (r : Nat → Nat → Nat) (x1 : Int32) (x2 : Int32) (K : Int32 → cS → Prop) : Prop :=
  wpX1_has 46 F L r x1 (fun r5 u5 =>
    (¬ (r5 = 0) →
    (x2 = (0 : Int32) →
      wpX3_wayOf 74 u5.1 u5.2.1 u5.2.2 x1 (fun r57 u57 =>
          K r57 (u57.1, u57.2.1, u57.2.2))) ∧
    (x2 = (1 : Int32) →
      wpX3_yesesOf 74 u5.1 u5.2.1 u5.2.2 x1 (fun r66 u66 =>
          K r66 (u66.1, u66.2.1, u66.2.2))) ∧
    (x2 = (2 : Int32) →
      wpX1_wallsOf 46 u5.1 u5.2.1 u5.2.2 x1 (fun r75 u75 =>
          K r75 (u75.1, u75.2.1, u75.2.2))) ∧
    (x2 = (3 : Int32) →
      wpX1_far 46 u5.1 u5.2.1 u5.2.2 x1 (fun r84 u84 =>
          K r84 (u84.1, u84.2.1, u84.2.2))) ∧
    ((x2).toInt < 0 ∨ 3 < (x2).toInt →
      False)) ∧
  ((r5 = 0) →
    False))
def wpX10_look (F : Nat → Nat → Int32) (L : Nat → Nat → Int64) (r : Nat → Nat → Nat) (x1 : Int32) (x2 : Int32) (K : Int32 → cS → Prop) : Prop := wpX10_look_b0 F L r x1 x2 K
def wpX1_reach_b9_body (B9 : (Nat → Nat → Int32) → (Nat → Nat → Int64) → (Nat → Nat → Nat) → Int64 → Int32 → Prop) (a0 : Nat) (F : Nat → Nat → Int32) (L : Nat → Nat → Int64) (r : Nat → Nat → Nat) (x1 : Int64) (x3 : Int32) (K : Int64 → cS → Prop) : Prop :=
  (((F a0 2) ≤ x3) →
    K x1 (F, L, r)) ∧
  (¬ ((F a0 2) ≤ x3) →
    wpX1_spread a0 F L r x1 (fun r19 u19 =>
      B9 u19.1 u19.2.1 u19.2.2 r19 (x3 + (1 : Int32))))
def wpX1_reach_b9 (a0 : Nat) (n_ : Nat) (F : Nat → Nat → Int32) (L : Nat → Nat → Int64) (r : Nat → Nat → Nat) (x1 : Int64) (x3 : Int32) (K : Int64 → cS → Prop) : Prop := match n_ with
  | 0 => False
  | n + 1 => wpX1_reach_b9_body (fun F L r x1 x3 => wpX1_reach_b9 a0 n F L r x1 x3 K) a0 F L r x1 x3 K
def wpX1_reach_b0 (a0 : Nat) (F : Nat → Nat → Int32) (L : Nat → Nat → Int64) (r : Nat → Nat → Nat) (K : Int64 → cS → Prop) : Prop :=
  ∃ n, wpX1_reach_b9 a0 n F L r (jlshl (1 : Int64) (F a0 3)) (1 : Int32) K
def wpX1_reach (a0 : Nat) (F : Nat → Nat → Int32) (L : Nat → Nat → Int64) (r : Nat → Nat → Nat) (K : Int64 → cS → Prop) : Prop := wpX1_reach_b0 a0 F L r K
def wpX10_scoutRun_b23 (F : Nat → Nat → Int32) (L : Nat → Nat → Int64) (r : Nat → Nat → Nat) (K : Int32 → cS → Prop) : Prop :=
  kd (r 0 3) = 6 ∧ wpX3_arrive 84 (r 0 3) 46 (pt F 84 7 (0 : Int32)) L r (2000 : Int32) (fun r46 u46 =>
    K r46 (u46.1, u46.2.1, u46.2.2))
def wpX10_scoutRun_b0 (F : Nat → Nat → Int32) (L : Nat → Nat → Int64) (r : Nat → Nat → Nat) (x1 : Int32) (x2 : Int32) (K : Int32 → cS → Prop) : Prop :=
  ((x2 = 0) →
    wpX3_setDown 84 F L r x1 (fun u20 =>
      wpX10_scoutRun_b23 u20.1 u20.2.1 u20.2.2 K)) ∧
  (¬ (x2 = 0) →
    wpX3_setDownWiped 84 F L r x1 (fun u9 =>
      wpX10_scoutRun_b23 u9.1 u9.2.1 u9.2.2 K))
def wpX10_scoutRun (F : Nat → Nat → Int32) (L : Nat → Nat → Int64) (r : Nat → Nat → Nat) (x1 : Int32) (x2 : Int32) (K : Int32 → cS → Prop) : Prop := wpX10_scoutRun_b0 F L r x1 x2 K
def wpX10_comes_b9 (F : Nat → Nat → Int32) (L : Nat → Nat → Int64) (r : Nat → Nat → Nat) (K : Int32 → cS → Prop) : Prop :=
  K (-1 : Int32) (F, L, r)
def wpX10_comes_b93 (F : Nat → Nat → Int32) (L : Nat → Nat → Int64) (r : Nat → Nat → Nat) (k0 : Int32) (K : Int32 → cS → Prop) : Prop :=
  K k0 (F, L, r)
def wpX10_comes_b76 (B28 : (Nat → Nat → Int32) → (Nat → Nat → Int64) → (Nat → Nat → Nat) → Int32 → Int64 → Int32 → Int32 → Int32 → Prop) (F : Nat → Nat → Int32) (L : Nat → Nat → Int64) (r : Nat → Nat → Nat) (x1 : Int32) (x2 : Int64) (x4 : Int32) (x5 : Int32) (x6 : Int32) (K : Int32 → cS → Prop) : Prop :=
  B28 F L r x1 x2 x4 x5 (x6 + (1 : Int32))
def wpX10_comes_b28_body (B28 : (Nat → Nat → Int32) → (Nat → Nat → Int64) → (Nat → Nat → Nat) → Int32 → Int64 → Int32 → Int32 → Int32 → Prop) (F : Nat → Nat → Int32) (L : Nat → Nat → Int64) (r : Nat → Nat → Nat) (x1 : Int32) (x2 : Int64) (x4 : Int32) (x5 : Int32) (x6 : Int32) (K : Int32 → cS → Prop) : Prop :=
  (((F 46 2) ≤ x6) →
    (¬ (x1 = 0) →
      wpX10_comes_b93 F L r x5 K) ∧
    ((x1 = 0) →
      wpX10_comes_b93 F L r x4 K)) ∧
  (¬ ((F 46 2) ≤ x6) →
    (((lg_cmp ((jlushr x2 x6) &&& (1 : Int64)) (0 : Int64)) = 0) →
      wpX10_comes_b76 B28 F L r x1 x2 x4 x5 x6 K) ∧
    (¬ ((lg_cmp ((jlushr x2 x6) &&& (1 : Int64)) (0 : Int64)) = 0) →
      wpX10_scoutRun F L r x6 (1 : Int32) (fun r55 u55 =>
        (¬ (r55 = (-2 : Int32)) →
        wpX10_comes_b76 B28 u55.1 u55.2.1 u55.2.2 x1 x2 x4 x5 x6 K) ∧
      ((r55 = (-2 : Int32)) →
        (¬ (x5 = (-1 : Int32)) →
          wpX10_comes_b76 B28 u55.1 u55.2.1 u55.2.2 x1 x2 (x4 + (1 : Int32)) x5 x6 K) ∧
        ((x5 = (-1 : Int32)) →
          wpX10_comes_b76 B28 u55.1 u55.2.1 u55.2.2 x1 x2 (x4 + (1 : Int32)) x6 x6 K)))))
def wpX10_comes_b28 (n_ : Nat) (F : Nat → Nat → Int32) (L : Nat → Nat → Int64) (r : Nat → Nat → Nat) (x1 : Int32) (x2 : Int64) (x4 : Int32) (x5 : Int32) (x6 : Int32) (K : Int32 → cS → Prop) : Prop := match n_ with
  | 0 => False
  | n + 1 => wpX10_comes_b28_body (fun F L r x1 x2 x4 x5 x6 => wpX10_comes_b28 n F L r x1 x2 x4 x5 x6 K) F L r x1 x2 x4 x5 x6 K
def wpX10_comes_b0 (F : Nat → Nat → Int32) (L : Nat → Nat → Int64) (r : Nat → Nat → Nat) (x1 : Int32) (K : Int32 → cS → Prop) : Prop :=
  ((x1 < 0) →
    wpX10_comes_b9 F L r K) ∧
  (¬ (x1 < 0) →
    ((x1 ≤ (1 : Int32)) →
      wpX1_reach 46 F L r (fun r15 u15 =>
        ∃ n, wpX10_comes_b28 n u15.1 u15.2.1 u15.2.2 x1 r15 (0 : Int32) (-1 : Int32) (0 : Int32) K)) ∧
    (¬ (x1 ≤ (1 : Int32)) →
      wpX10_comes_b9 F L r K))
def wpX10_comes (F : Nat → Nat → Int32) (L : Nat → Nat → Int64) (r : Nat → Nat → Nat) (x1 : Int32) (K : Int32 → cS → Prop) : Prop := wpX10_comes_b0 F L r x1 K
def wpX10_second_b20 (F : Nat → Nat → Int32) (L : Nat → Nat → Int64) (r : Nat → Nat → Nat) (K : Int32 → cS → Prop) : Prop :=
  K (-1 : Int32) (F, L, r)
def wpX10_second_b89 (F : Nat → Nat → Int32) (L : Nat → Nat → Int64) (r : Nat → Nat → Nat) (k0 : Int32) (K : Int32 → cS → Prop) : Prop :=
  K k0 (F, L, r)
def wpX10_second_b64 (F : Nat → Nat → Int32) (L : Nat → Nat → Int64) (r : Nat → Nat → Nat) (x2 : Int32) (x3 : Int32) (K : Int32 → cS → Prop) : Prop :=
  (¬ (x3 = (-2 : Int32)) →
    (((2 : Int32) ≤ x2) →
      wpX10_second_b89 F L r (F 84 7) K) ∧
    (¬ ((2 : Int32) ≤ x2) →
      wpX10_second_b89 F L r x3 K)) ∧
  ((x3 = (-2 : Int32)) →
    K (-2 : Int32) (F, L, r))
def wpX10_second_b44 (F : Nat → Nat → Int32) (L : Nat → Nat → Int64) (r : Nat → Nat → Nat) (k0 : Int32) (x1 : Int32) (x2 : Int32) (x3 : Int32) (K : Int32 → cS → Prop) : Prop :=
  ((k0 = 0) →
    wpX10_second_b64 F L r x2 x3 K) ∧
  (¬ (k0 = 0) →
    ((x3 = (-2 : Int32)) →
      wpX10_second_b64 F L r x2 x3 K) ∧
    (¬ (x3 = (-2 : Int32)) →
      wpX10_scoutRun F L r x1 (0 : Int32) (fun r60 u60 =>
        wpX10_second_b64 u60.1 u60.2.1 u60.2.2 x2 r60 K)))
def wpX10_second_b39 (F : Nat → Nat → Int32) (L : Nat → Nat → Int64) (r : Nat → Nat → Nat) (x1 : Int32) (x2 : Int32) (x3 : Int32) (K : Int32 → cS → Prop) : Prop :=
  wpX10_second_b44 F L r (1 : Int32) x1 x2 x3 K
def wpX10_second_b0 (F : Nat → Nat → Int32) (L : Nat → Nat → Int64) (r : Nat → Nat → Nat) (x1 : Int32) (x2 : Int32) (K : Int32 → cS → Prop) : Prop :=
  wpX1_has 46 F L r x1 (fun r5 u5 =>
    ((r5 = 0) →
    wpX10_second_b20 u5.1 u5.2.1 u5.2.2 K) ∧
  (¬ (r5 = 0) →
    ((x2 < 0) →
      wpX10_second_b20 u5.1 u5.2.1 u5.2.2 K) ∧
    (¬ (x2 < 0) →
      ((x2 ≤ (3 : Int32)) →
        wpX10_scoutRun u5.1 u5.2.1 u5.2.2 x1 (1 : Int32) (fun r25 u25 =>
          ((x2 = (1 : Int32)) →
          wpX10_second_b39 u25.1 u25.2.1 u25.2.2 x1 x2 r25 K) ∧
        (¬ (x2 = (1 : Int32)) →
          (¬ (x2 = (3 : Int32)) →
            wpX10_second_b44 u25.1 u25.2.1 u25.2.2 (0 : Int32) x1 x2 r25 K) ∧
          ((x2 = (3 : Int32)) →
            wpX10_second_b39 u25.1 u25.2.1 u25.2.2 x1 x2 r25 K)))) ∧
      (¬ (x2 ≤ (3 : Int32)) →
        wpX10_second_b20 u5.1 u5.2.1 u5.2.2 K))))
def wpX10_second (F : Nat → Nat → Int32) (L : Nat → Nat → Int64) (r : Nat → Nat → Nat) (x1 : Int32) (x2 : Int32) (K : Int32 → cS → Prop) : Prop := wpX10_second_b0 F L r x1 x2 K
def wpX8_isSmall_b25 (k0 : Int32) (K : Int32 → Unit → Prop) : Prop :=
  isB k0 ∧ K k0 ()
def wpX8_isSmall_b24 (K : Int32 → Unit → Prop) : Prop :=
  wpX8_isSmall_b25 (0 : Int32) K
def wpX8_isSmall_b0 (x0 : Int32) (x1 : Int32) (K : Int32 → Unit → Prop) : Prop :=
  ((x0 < (2 : Int32)) →
    wpX8_isSmall_b24  K) ∧
  (¬ (x0 < (2 : Int32)) →
    (((3 : Int32) < x0) →
      wpX8_isSmall_b24  K) ∧
    (¬ ((3 : Int32) < x0) →
      ((x1 < (2 : Int32)) →
        wpX8_isSmall_b24  K) ∧
      (¬ (x1 < (2 : Int32)) →
        (((3 : Int32) < x1) →
          wpX8_isSmall_b24  K) ∧
        (¬ ((3 : Int32) < x1) →
          wpX8_isSmall_b25 (1 : Int32) K))))
def wpX8_isSmall (x0 : Int32) (x1 : Int32) (K : Int32 → Unit → Prop) : Prop := wpX8_isSmall_b0  x0 x1 K
def wpX8_sizeOf_b21 (k0 : Int32) (K : Int32 → Unit → Prop) : Prop :=
  K k0 ()
def wpX8_sizeOf_b0 (x0 : Int32) (x1 : Int32) (K : Int32 → Unit → Prop) : Prop :=
  wpX8_isSmall x0 x1 (fun r2 u2 =>
    ((r2 = 0) →
    wpX8_sizeOf_b21 (0 : Int32) K) ∧
  (¬ (r2 = 0) →
    wpX8_sizeOf_b21 ((((x0 - (2 : Int32)) * (2 : Int32)) + x1) - (2 : Int32)) K))
def wpX8_sizeOf (x0 : Int32) (x1 : Int32) (K : Int32 → Unit → Prop) : Prop := wpX8_sizeOf_b0  x0 x1 K
def wpX8_layFirst_b0 (F : Nat → Nat → Int32) (L : Nat → Nat → Int64) (r : Nat → Nat → Nat) (x1 : Int32) (x2 : Int32) (K : cS → Prop) : Prop :=
  wpX1_lay 66 F L r x1 x2 (fun u6 =>
    wpX1_reach 66 (pt (pt u6.1 96 3 (0 : Int32)) 96 4 (-1 : Int32)) u6.2.1 u6.2.2 (fun r24 u24 =>
    K (u24.1, ptL u24.2.1 96 5 r24, u24.2.2)))
def wpX8_layFirst (F : Nat → Nat → Int32) (L : Nat → Nat → Int64) (r : Nat → Nat → Nat) (x1 : Int32) (x2 : Int32) (K : cS → Prop) : Prop := wpX8_layFirst_b0 F L r x1 x2 K
def wpX1_wallNumbers_b0 (a0 : Nat) (F : Nat → Nat → Int32) (L : Nat → Nat → Int64) (r : Nat → Nat → Nat) (K : Int32 → cS → Prop) : Prop :=
  K (((F a0 1) * ((F a0 0) - (1 : Int32))) + (((F a0 1) - (1 : Int32)) * (F a0 0))) (F, L, r)
def wpX1_wallNumbers (a0 : Nat) (F : Nat → Nat → Int32) (L : Nat → Nat → Int64) (r : Nat → Nat → Nat) (K : Int32 → cS → Prop) : Prop := wpX1_wallNumbers_b0 a0 F L r K
def wpX1_squareOfWall_b24 (a0 : Nat) (F : Nat → Nat → Int32) (L : Nat → Nat → Int64) (r : Nat → Nat → Nat) (x1 : Int32) (x3 : Int32) (K : Int32 → cS → Prop) : Prop :=
  K (x1 - x3) (F, L, r)
def wpX1_squareOfWall_b0 (a0 : Nat) (F : Nat → Nat → Int32) (L : Nat → Nat → Int64) (r : Nat → Nat → Nat) (x1 : Int32) (K : Int32 → cS → Prop) : Prop :=
  ((((F a0 1) * ((F a0 0) - (1 : Int32))) ≤ x1) →
    wpX1_squareOfWall_b24 a0 F L r x1 ((F a0 1) * ((F a0 0) - (1 : Int32))) K) ∧
  (¬ (((F a0 1) * ((F a0 0) - (1 : Int32))) ≤ x1) →
    (((1 : Int32) ≤ ((F a0 0) - (1 : Int32))) →
      (¬ (F a0 0) - (1 : Int32) = 0) ∧ (¬ (F a0 0) - (1 : Int32) = 0) ∧ K (((x1 / ((F a0 0) - (1 : Int32))) * (F a0 0)) + (jrem x1 ((F a0 0) - (1 : Int32)))) (F, L, r)) ∧
    (¬ ((1 : Int32) ≤ ((F a0 0) - (1 : Int32))) →
      wpX1_squareOfWall_b24 a0 F L r x1 ((F a0 1) * ((F a0 0) - (1 : Int32))) K))
def wpX1_squareOfWall (a0 : Nat) (F : Nat → Nat → Int32) (L : Nat → Nat → Int64) (r : Nat → Nat → Nat) (x1 : Int32) (K : Int32 → cS → Prop) : Prop := wpX1_squareOfWall_b0 a0 F L r x1 K
def wpX1_sideOfWall_b20 (a0 : Nat) (F : Nat → Nat → Int32) (L : Nat → Nat → Int64) (r : Nat → Nat → Nat) (k0 : Int32) (K : Int32 → cS → Prop) : Prop :=
  K k0 (F, L, r)
def wpX1_sideOfWall_b0 (a0 : Nat) (F : Nat → Nat → Int32) (L : Nat → Nat → Int64) (r : Nat → Nat → Nat) (x1 : Int32) (K : Int32 → cS → Prop) : Prop :=
  ((((F a0 1) * ((F a0 0) - (1 : Int32))) ≤ x1) →
    wpX1_sideOfWall_b20 a0 F L r (2 : Int32) K) ∧
  (¬ (((F a0 1) * ((F a0 0) - (1 : Int32))) ≤ x1) →
    wpX1_sideOfWall_b20 a0 F L r (1 : Int32) K)
def wpX1_sideOfWall (a0 : Nat) (F : Nat → Nat → Int32) (L : Nat → Nat → Int64) (r : Nat → Nat → Nat) (x1 : Int32) (K : Int32 → cS → Prop) : Prop := wpX1_sideOfWall_b0 a0 F L r x1 K
def wpX1_raiseWalls_b37 (B6 : (Nat → Nat → Int32) → (Nat → Nat → Int64) → (Nat → Nat → Nat) → Int32 → Int32 → Prop) (a0 : Nat) (F : Nat → Nat → Int32) (L : Nat → Nat → Int64) (r : Nat → Nat → Nat) (x1 : Int32) (x2 : Int32) (K : cS → Prop) : Prop :=
  B6 F L r x1 (x2 + (1 : Int32))
def wpX1_raiseWalls_b6_body (B6 : (Nat → Nat → Int32) → (Nat → Nat → Int64) → (Nat → Nat → Nat) → Int32 → Int32 → Prop) (a0 : Nat) (F : Nat → Nat → Int32) (L : Nat → Nat → Int64) (r : Nat → Nat → Nat) (x1 : Int32) (x2 : Int32) (K : cS → Prop) : Prop :=
  wpX1_wallNumbers a0 F L r (fun r8 u8 =>
    ((r8 ≤ x2) →
    K (u8.1, u8.2.1, u8.2.2)) ∧
  (¬ (r8 ≤ x2) →
    ((((jshr x1 x2) &&& (1 : Int32)) = 0) →
      wpX1_raiseWalls_b37 B6 a0 u8.1 u8.2.1 u8.2.2 x1 x2 K) ∧
    (¬ (((jshr x1 x2) &&& (1 : Int32)) = 0) →
      wpX1_squareOfWall a0 u8.1 u8.2.1 u8.2.2 x2 (fun r25 u25 =>
        wpX1_sideOfWall a0 u25.1 u25.2.1 u25.2.2 x2 (fun r30 u30 =>
        wpX1_putWall a0 u30.1 u30.2.1 u30.2.2 r25 r30 (1 : Int32) (fun u34 =>
        wpX1_raiseWalls_b37 B6 a0 u34.1 u34.2.1 u34.2.2 x1 x2 K))))))
def wpX1_raiseWalls_b6 (a0 : Nat) (n_ : Nat) (F : Nat → Nat → Int32) (L : Nat → Nat → Int64) (r : Nat → Nat → Nat) (x1 : Int32) (x2 : Int32) (K : cS → Prop) : Prop := match n_ with
  | 0 => False
  | n + 1 => wpX1_raiseWalls_b6_body (fun F L r x1 x2 => wpX1_raiseWalls_b6 a0 n F L r x1 x2 K) a0 F L r x1 x2 K
def wpX1_raiseWalls_b0 (a0 : Nat) (F : Nat → Nat → Int32) (L : Nat → Nat → Int64) (r : Nat → Nat → Nat) (x1 : Int32) (K : cS → Prop) : Prop :=
  wpX1_clearWalls a0 F L r (fun u1 =>
    ∃ n, wpX1_raiseWalls_b6 a0 n u1.1 u1.2.1 u1.2.2 x1 (0 : Int32) K)
def wpX1_raiseWalls (a0 : Nat) (F : Nat → Nat → Int32) (L : Nat → Nat → Int64) (r : Nat → Nat → Nat) (x1 : Int32) (K : cS → Prop) : Prop := wpX1_raiseWalls_b0 a0 F L r x1 K
def wpX8_nextStart_b79 (B12 : (Nat → Nat → Int32) → (Nat → Nat → Int64) → (Nat → Nat → Nat) → Int32 → Int32 → Prop) (F : Nat → Nat → Int32) (L : Nat → Nat → Int64) (r : Nat → Nat → Nat) (x1 : Int32) (x2 : Int32) (K : Int32 → cS → Prop) : Prop :=
  (((F 96 3) < x1) →
    (((lg_cmp ((jlushr (L 96 5) (F 96 4)) &&& (1 : Int64)) (0 : Int64)) = 0) →
      B12 F L r x1 (x2 + (1 : Int32))) ∧
    (¬ ((lg_cmp ((jlushr (L 96 5) (F 96 4)) &&& (1 : Int64)) (0 : Int64)) = 0) →
      K (1 : Int32) (F, L, r))) ∧
  (¬ ((F 96 3) < x1) →
    K (0 : Int32) (F, L, r))
def wpX8_nextStart_b12_body (B12 : (Nat → Nat → Int32) → (Nat → Nat → Int64) → (Nat → Nat → Nat) → Int32 → Int32 → Prop) (F : Nat → Nat → Int32) (L : Nat → Nat → Int64) (r : Nat → Nat → Nat) (x1 : Int32) (x2 : Int32) (K : Int32 → cS → Prop) : Prop :=
  (((36864 : Int32) ≤ x2) →
    K (0 : Int32) (F, L, r)) ∧
  (¬ ((36864 : Int32) ≤ x2) →
    ((((pt F 96 4 ((F 96 4) + (1 : Int32))) 96 4) < ((pt F 96 4 ((F 96 4) + (1 : Int32))) 66 2)) →
      wpX8_nextStart_b79 B12 (pt F 96 4 ((F 96 4) + (1 : Int32))) L r x1 x2 K) ∧
    (¬ (((pt F 96 4 ((F 96 4) + (1 : Int32))) 96 4) < ((pt F 96 4 ((F 96 4) + (1 : Int32))) 66 2)) →
      wpX1_raiseWalls 66 (pt (pt (pt F 96 4 ((F 96 4) + (1 : Int32))) 96 4 (0 : Int32)) 96 3 (((pt (pt F 96 4 ((F 96 4) + (1 : Int32))) 96 4 (0 : Int32)) 96 3) + (1 : Int32))) L r ((pt (pt (pt F 96 4 ((F 96 4) + (1 : Int32))) 96 4 (0 : Int32)) 96 3 (((pt (pt F 96 4 ((F 96 4) + (1 : Int32))) 96 4 (0 : Int32)) 96 3) + (1 : Int32))) 96 3) (fun u65 =>
        wpX1_reach 66 u65.1 u65.2.1 u65.2.2 (fun r73 u73 =>
        wpX8_nextStart_b79 B12 u73.1 (ptL u73.2.1 96 5 r73) u73.2.2 x1 x2 K))))
def wpX8_nextStart_b12 (n_ : Nat) (F : Nat → Nat → Int32) (L : Nat → Nat → Int64) (r : Nat → Nat → Nat) (x1 : Int32) (x2 : Int32) (K : Int32 → cS → Prop) : Prop := match n_ with
  | 0 => False
  | n + 1 => wpX8_nextStart_b12_body (fun F L r x1 x2 => wpX8_nextStart_b12 n F L r x1 x2 K) F L r x1 x2 K
def wpX8_nextStart_b0 (F : Nat → Nat → Int32) (L : Nat → Nat → Int64) (r : Nat → Nat → Nat) (K : Int32 → cS → Prop) : Prop :=
  wpX1_wallNumbers 66 F L r (fun r5 u5 =>
    ∃ n, wpX8_nextStart_b12 n u5.1 u5.2.1 u5.2.2 (jshl (1 : Int32) r5) (0 : Int32) K)
def wpX8_nextStart (F : Nat → Nat → Int32) (L : Nat → Nat → Int64) (r : Nat → Nat → Nat) (K : Int32 → cS → Prop) : Prop := wpX8_nextStart_b0 F L r K
def wpX8_findHeld_b88 (a1 : Nat) (F : Nat → Nat → Int32) (L : Nat → Nat → Int64) (r : Nat → Nat → Nat) (K : cS → Prop) : Prop :=
  K (F, L, r)
def wpX8_findHeld_b18_body (B18 : (Nat → Nat → Int32) → (Nat → Nat → Int64) → (Nat → Nat → Nat) → Int32 → Int32 → Prop) (a1 : Nat) (F : Nat → Nat → Int32) (L : Nat → Nat → Int64) (r : Nat → Nat → Nat) (x2 : Int32) (x3 : Int32) (K : cS → Prop) : Prop :=
  (((36864 : Int32) ≤ x3) →
    wpX8_findHeld_b88 a1 F L r K) ∧
  (¬ ((36864 : Int32) ≤ x3) →
    wpX8_nextStart F L r (fun r25 u25 =>
      ((r25 = 0) →
      wpX8_findHeld_b88 a1 u25.1 u25.2.1 u25.2.2 K) ∧
    (¬ (r25 = 0) →
      wpX3_setDownWiped 86 u25.1 u25.2.1 u25.2.2 (u25.1 96 4) (fun u39 =>
        wpX3_arrive 86 a1 66 u39.1 u39.2.1 u39.2.2 (100 : Int32) (fun r53 u53 =>
        (¬ (r53 = (-2 : Int32)) →
        B18 u53.1 u53.2.1 u53.2.2 x2 (x3 + (1 : Int32))) ∧
      ((r53 = (-2 : Int32)) →
        vp_in x2 4 ∧ vp_in x2 4 ∧ K (pt (pt u53.1 97 (ix x2) (u53.1 96 3)) 98 (ix x2) ((pt u53.1 97 (ix x2) (u53.1 96 3)) 96 4), u53.2.1, u53.2.2)))))))
def wpX8_findHeld_b18 (a1 : Nat) (n_ : Nat) (F : Nat → Nat → Int32) (L : Nat → Nat → Int64) (r : Nat → Nat → Nat) (x2 : Int32) (x3 : Int32) (K : cS → Prop) : Prop := match n_ with
  | 0 => False
  | n + 1 => wpX8_findHeld_b18_body (fun F L r x2 x3 => wpX8_findHeld_b18 a1 n F L r x2 x3 K) a1 F L r x2 x3 K
def wpX8_findHeld_b0 (a1 : Nat) (F : Nat → Nat → Int32) (L : Nat → Nat → Int64) (r : Nat → Nat → Nat) (x2 : Int32) (K : cS → Prop) : Prop :=
  vp_in x2 4 ∧ vp_in x2 4 ∧ ∃ n, wpX8_findHeld_b18 a1 n (pt (pt F 97 (ix x2) (-2 : Int32)) 98 (ix x2) (-2 : Int32)) L r x2 (0 : Int32) K
def wpX8_findHeld (a1 : Nat) (F : Nat → Nat → Int32) (L : Nat → Nat → Int64) (r : Nat → Nat → Nat) (x2 : Int32) (K : cS → Prop) : Prop := wpX8_findHeld_b0 a1 F L r x2 K
def wpX8_heldBy_b67 (a1 : Nat) (F : Nat → Nat → Int32) (L : Nat → Nat → Int64) (r : Nat → Nat → Nat) (k0 : Int32) (K : Int32 → cS → Prop) : Prop :=
  K k0 (F, L, r)
def wpX8_heldBy_b45 (a1 : Nat) (F : Nat → Nat → Int32) (L : Nat → Nat → Int64) (r : Nat → Nat → Nat) (x4 : Int32) (x5 : Int32) (K : Int32 → cS → Prop) : Prop :=
  (¬ (x4 = 0) →
    vp_in x5 4 ∧ wpX8_heldBy_b67 a1 F L r (F 98 (ix x5)) K) ∧
  ((x4 = 0) →
    vp_in x5 4 ∧ wpX8_heldBy_b67 a1 F L r (F 97 (ix x5)) K)
def wpX8_heldBy_b0 (a1 : Nat) (F : Nat → Nat → Int32) (L : Nat → Nat → Int64) (r : Nat → Nat → Nat) (x2 : Int32) (x3 : Int32) (x4 : Int32) (K : Int32 → cS → Prop) : Prop :=
  wpX8_sizeOf x2 x3 (fun r2 u2 =>
    (¬ (((jshr (F 96 6) r2) &&& (1 : Int32)) = 0) →
    wpX8_heldBy_b45 a1 F L r x4 r2 K) ∧
  ((((jshr (F 96 6) r2) &&& (1 : Int32)) = 0) →
    wpX8_layFirst F L r x2 x3 (fun u22 =>
      wpX8_findHeld a1 u22.1 u22.2.1 u22.2.2 r2 (fun u29 =>
      wpX8_heldBy_b45 a1 (pt u29.1 96 6 ((u29.1 96 6) ||| (jshl (1 : Int32) r2))) u29.2.1 u29.2.2 x4 r2 K))))
def wpX8_heldBy (a1 : Nat) (F : Nat → Nat → Int32) (L : Nat → Nat → Int64) (r : Nat → Nat → Nat) (x2 : Int32) (x3 : Int32) (x4 : Int32) (K : Int32 → cS → Prop) : Prop := wpX8_heldBy_b0 a1 F L r x2 x3 x4 K
def wpX10_held_b17 (F : Nat → Nat → Int32) (L : Nat → Nat → Int64) (r : Nat → Nat → Nat) (K : Int32 → cS → Prop) : Prop :=
  K (-1 : Int32) (F, L, r)
def wpX10_held_b0 (F : Nat → Nat → Int32) (L : Nat → Nat → Int64) (r : Nat → Nat → Nat) (x1 : Int32) (x2 : Int32) (x3 : Int32) (K : Int32 → cS → Prop) : Prop :=
  wpX8_isSmall x1 x2 (fun r2 u2 =>
    ((r2 = 0) →
    wpX10_held_b17 F L r K) ∧
  (¬ (r2 = 0) →
    ((x3 < 0) →
      wpX10_held_b17 F L r K) ∧
    (¬ (x3 < 0) →
      ((x3 ≤ (1 : Int32)) →
        kd (r 0 3) = 6 ∧ wpX8_heldBy (r 0 3) F L r x1 x2 x3 (fun r30 u30 =>
          K r30 (u30.1, u30.2.1, u30.2.2))) ∧
      (¬ (x3 ≤ (1 : Int32)) →
        wpX10_held_b17 F L r K))))
def wpX10_held (F : Nat → Nat → Int32) (L : Nat → Nat → Int64) (r : Nat → Nat → Nat) (x1 : Int32) (x2 : Int32) (x3 : Int32) (K : Int32 → cS → Prop) : Prop := wpX10_held_b0 F L r x1 x2 x3 K
def wpX8_findLongest_b94 (a1 : Nat) (F : Nat → Nat → Int32) (L : Nat → Nat → Int64) (r : Nat → Nat → Nat) (K : cS → Prop) : Prop :=
  K (F, L, r)
def wpX8_findLongest_b88 (B9 : (Nat → Nat → Int32) → (Nat → Nat → Int64) → (Nat → Nat → Nat) → Int32 → Int32 → Prop) (a1 : Nat) (F : Nat → Nat → Int32) (L : Nat → Nat → Int64) (r : Nat → Nat → Nat) (x2 : Int32) (x3 : Int32) (K : cS → Prop) : Prop :=
  B9 F L r x2 (x3 + (1 : Int32))
def wpX8_findLongest_b9_body (B9 : (Nat → Nat → Int32) → (Nat → Nat → Int64) → (Nat → Nat → Nat) → Int32 → Int32 → Prop) (a1 : Nat) (F : Nat → Nat → Int32) (L : Nat → Nat → Int64) (r : Nat → Nat → Nat) (x2 : Int32) (x3 : Int32) (K : cS → Prop) : Prop :=
  (((36864 : Int32) ≤ x3) →
    wpX8_findLongest_b94 a1 F L r K) ∧
  (¬ ((36864 : Int32) ≤ x3) →
    wpX8_nextStart F L r (fun r16 u16 =>
      ((r16 = 0) →
      wpX8_findLongest_b94 a1 u16.1 u16.2.1 u16.2.2 K) ∧
    (¬ (r16 = 0) →
      wpX3_setDownWiped 86 u16.1 u16.2.1 u16.2.2 (u16.1 96 4) (fun u30 =>
        wpX3_arrive 86 a1 66 u30.1 u30.2.1 u30.2.2 (100 : Int32) (fun r44 u44 =>
        vp_in x2 4 ∧ ((r44 ≤ (u44.1 99 (ix x2))) →
        wpX8_findLongest_b88 B9 a1 u44.1 u44.2.1 u44.2.2 x2 x3 K) ∧
      (¬ (r44 ≤ (u44.1 99 (ix x2))) →
        vp_in x2 4 ∧ vp_in x2 4 ∧ vp_in x2 4 ∧ wpX8_findLongest_b88 B9 a1 (pt (pt (pt u44.1 99 (ix x2) r44) 100 (ix x2) ((pt u44.1 99 (ix x2) r44) 96 3)) 101 (ix x2) ((pt (pt u44.1 99 (ix x2) r44) 100 (ix x2) ((pt u44.1 99 (ix x2) r44) 96 3)) 96 4)) u44.2.1 u44.2.2 x2 x3 K))))))
def wpX8_findLongest_b9 (a1 : Nat) (n_ : Nat) (F : Nat → Nat → Int32) (L : Nat → Nat → Int64) (r : Nat → Nat → Nat) (x2 : Int32) (x3 : Int32) (K : cS → Prop) : Prop := match n_ with
  | 0 => False
  | n + 1 => wpX8_findLongest_b9_body (fun F L r x2 x3 => wpX8_findLongest_b9 a1 n F L r x2 x3 K) a1 F L r x2 x3 K
def wpX8_findLongest_b0 (a1 : Nat) (F : Nat → Nat → Int32) (L : Nat → Nat → Int64) (r : Nat → Nat → Nat) (x2 : Int32) (K : cS → Prop) : Prop :=
  vp_in x2 4 ∧ ∃ n, wpX8_findLongest_b9 a1 n (pt F 99 (ix x2) (-1 : Int32)) L r x2 (0 : Int32) K
def wpX8_findLongest (a1 : Nat) (F : Nat → Nat → Int32) (L : Nat → Nat → Int64) (r : Nat → Nat → Nat) (x2 : Int32) (K : cS → Prop) : Prop := wpX8_findLongest_b0 a1 F L r x2 K
def wpX8_longestBy_b81 (a1 : Nat) (F : Nat → Nat → Int32) (L : Nat → Nat → Int64) (r : Nat → Nat → Nat) (k0 : Int32) (K : Int32 → cS → Prop) : Prop :=
  K k0 (F, L, r)
def wpX8_longestBy_b45 (a1 : Nat) (F : Nat → Nat → Int32) (L : Nat → Nat → Int64) (r : Nat → Nat → Nat) (x4 : Int32) (x5 : Int32) (K : Int32 → cS → Prop) : Prop :=
  (¬ (x4 = 0) →
    (¬ (x4 = (1 : Int32)) →
      vp_in x5 4 ∧ wpX8_longestBy_b81 a1 F L r (F 101 (ix x5)) K) ∧
    ((x4 = (1 : Int32)) →
      vp_in x5 4 ∧ wpX8_longestBy_b81 a1 F L r (F 100 (ix x5)) K)) ∧
  ((x4 = 0) →
    vp_in x5 4 ∧ K (F 99 (ix x5)) (F, L, r))
def wpX8_longestBy_b0 (a1 : Nat) (F : Nat → Nat → Int32) (L : Nat → Nat → Int64) (r : Nat → Nat → Nat) (x2 : Int32) (x3 : Int32) (x4 : Int32) (K : Int32 → cS → Prop) : Prop :=
  wpX8_sizeOf x2 x3 (fun r2 u2 =>
    (¬ (((jshr (F 96 7) r2) &&& (1 : Int32)) = 0) →
    wpX8_longestBy_b45 a1 F L r x4 r2 K) ∧
  ((((jshr (F 96 7) r2) &&& (1 : Int32)) = 0) →
    wpX8_layFirst F L r x2 x3 (fun u22 =>
      wpX8_findLongest a1 u22.1 u22.2.1 u22.2.2 r2 (fun u29 =>
      wpX8_longestBy_b45 a1 (pt u29.1 96 7 ((u29.1 96 7) ||| (jshl (1 : Int32) r2))) u29.2.1 u29.2.2 x4 r2 K))))
def wpX8_longestBy (a1 : Nat) (F : Nat → Nat → Int32) (L : Nat → Nat → Int64) (r : Nat → Nat → Nat) (x2 : Int32) (x3 : Int32) (x4 : Int32) (K : Int32 → cS → Prop) : Prop := wpX8_longestBy_b0 a1 F L r x2 x3 x4 K
def wpX10_longest_b17 (F : Nat → Nat → Int32) (L : Nat → Nat → Int64) (r : Nat → Nat → Nat) (K : Int32 → cS → Prop) : Prop :=
  K (-1 : Int32) (F, L, r)
def wpX10_longest_b0 (F : Nat → Nat → Int32) (L : Nat → Nat → Int64) (r : Nat → Nat → Nat) (x1 : Int32) (x2 : Int32) (x3 : Int32) (K : Int32 → cS → Prop) : Prop :=
  wpX8_isSmall x1 x2 (fun r2 u2 =>
    ((r2 = 0) →
    wpX10_longest_b17 F L r K) ∧
  (¬ (r2 = 0) →
    ((x3 < 0) →
      wpX10_longest_b17 F L r K) ∧
    (¬ (x3 < 0) →
      ((x3 ≤ (2 : Int32)) →
        kd (r 0 3) = 6 ∧ wpX8_longestBy (r 0 3) F L r x1 x2 x3 (fun r30 u30 =>
          K r30 (u30.1, u30.2.1, u30.2.2))) ∧
      (¬ (x3 ≤ (2 : Int32)) →
        wpX10_longest_b17 F L r K))))
def wpX10_longest (F : Nat → Nat → Int32) (L : Nat → Nat → Int64) (r : Nat → Nat → Nat) (x1 : Int32) (x2 : Int32) (x3 : Int32) (K : Int32 → cS → Prop) : Prop := wpX10_longest_b0 F L r x1 x2 x3 K
def wpX6_usesYes_b115 (a0 : Nat) (F : Nat → Nat → Int32) (L : Nat → Nat → Int64) (r : Nat → Nat → Nat) (k0 : Int32) (K : Int32 → cS → Prop) : Prop :=
  isB k0 ∧ K k0 (F, L, r)
def wpX6_usesYes_b114 (a0 : Nat) (F : Nat → Nat → Int32) (L : Nat → Nat → Int64) (r : Nat → Nat → Nat) (K : Int32 → cS → Prop) : Prop :=
  wpX6_usesYes_b115 a0 F L r (0 : Int32) K
def wpX6_usesYes_b86 (B15 : (Nat → Nat → Int32) → (Nat → Nat → Int64) → (Nat → Nat → Nat) → Int32 → Int32 → Int32 → Int32 → Int32 → Prop) (B51 : (Nat → Nat → Int32) → (Nat → Nat → Int64) → (Nat → Nat → Nat) → Int32 → Int32 → Int32 → Int32 → Int32 → Int32 → Prop) (a0 : Nat) (F : Nat → Nat → Int32) (L : Nat → Nat → Int64) (r : Nat → Nat → Nat) (k0 : Int32) (k1 : Int32) (x1 : Int32) (x2 : Int32) (x3 : Int32) (x5 : Int32) (x6 : Int32) (K : Int32 → cS → Prop) : Prop :=
  B51 F L r x1 x2 x3 (k0 ||| k1) x5 (x6 + (1 : Int32))
def wpX6_usesYes_b51_body (B15 : (Nat → Nat → Int32) → (Nat → Nat → Int64) → (Nat → Nat → Nat) → Int32 → Int32 → Int32 → Int32 → Int32 → Prop) (B51 : (Nat → Nat → Int32) → (Nat → Nat → Int64) → (Nat → Nat → Nat) → Int32 → Int32 → Int32 → Int32 → Int32 → Int32 → Prop) (a0 : Nat) (F : Nat → Nat → Int32) (L : Nat → Nat → Int64) (r : Nat → Nat → Nat) (x1 : Int32) (x2 : Int32) (x3 : Int32) (x4 : Int32) (x5 : Int32) (x6 : Int32) (K : Int32 → cS → Prop) : Prop :=
  vp_in x5 30 ∧ (((F (a0 + 2) (ix x5)) ≤ x6) →
    B15 F L r x1 x2 x3 x4 (x5 + (1 : Int32))) ∧
  (¬ ((F (a0 + 2) (ix x5)) ≤ x6) →
    vp_in x6 360 ∧ wpX6_actOf (9 : Int32) x1 (fun r75 u75 =>
      (¬ ((F (a0 + 1) (ix x6)) = r75) →
      wpX6_usesYes_b86 B15 B51 a0 F L r x4 (0 : Int32) x1 x2 x3 x5 x6 K) ∧
    (((F (a0 + 1) (ix x6)) = r75) →
      wpX6_usesYes_b86 B15 B51 a0 F L r x4 (1 : Int32) x1 x2 x3 x5 x6 K)))
def wpX6_usesYes_b51 (B15 : (Nat → Nat → Int32) → (Nat → Nat → Int64) → (Nat → Nat → Nat) → Int32 → Int32 → Int32 → Int32 → Int32 → Prop) (a0 : Nat) (n_ : Nat) (F : Nat → Nat → Int32) (L : Nat → Nat → Int64) (r : Nat → Nat → Nat) (x1 : Int32) (x2 : Int32) (x3 : Int32) (x4 : Int32) (x5 : Int32) (x6 : Int32) (K : Int32 → cS → Prop) : Prop := match n_ with
  | 0 => False
  | n + 1 => wpX6_usesYes_b51_body B15 (fun F L r x1 x2 x3 x4 x5 x6 => wpX6_usesYes_b51 B15 a0 n F L r x1 x2 x3 x4 x5 x6 K) a0 F L r x1 x2 x3 x4 x5 x6 K
def wpX6_usesYes_b42 (B15 : (Nat → Nat → Int32) → (Nat → Nat → Int64) → (Nat → Nat → Nat) → Int32 → Int32 → Int32 → Int32 → Int32 → Prop) (a0 : Nat) (F : Nat → Nat → Int32) (L : Nat → Nat → Int64) (r : Nat → Nat → Nat) (k0 : Int32) (k1 : Int32) (x1 : Int32) (x2 : Int32) (x4 : Int32) (x5 : Int32) (K : Int32 → cS → Prop) : Prop :=
  ∃ n, wpX6_usesYes_b51 B15 a0 n F L r x1 x2 (k0 ||| k1) x4 x5 (x5 * (12 : Int32)) K
def wpX6_usesYes_b15_body (B15 : (Nat → Nat → Int32) → (Nat → Nat → Int64) → (Nat → Nat → Nat) → Int32 → Int32 → Int32 → Int32 → Int32 → Prop) (a0 : Nat) (F : Nat → Nat → Int32) (L : Nat → Nat → Int64) (r : Nat → Nat → Nat) (x1 : Int32) (x2 : Int32) (x3 : Int32) (x4 : Int32) (x5 : Int32) (K : Int32 → cS → Prop) : Prop :=
  (((F a0 0) ≤ x5) →
    ((x3 = 0) →
      wpX6_usesYes_b114 a0 F L r K) ∧
    (¬ (x3 = 0) →
      ((x4 = 0) →
        wpX6_usesYes_b114 a0 F L r K) ∧
      (¬ (x4 = 0) →
        wpX6_usesYes_b115 a0 F L r (1 : Int32) K))) ∧
  (¬ ((F a0 0) ≤ x5) →
    vp_in x5 30 ∧ ((((F (a0 + 3) (ix x5)) &&& x2) = 0) →
      wpX6_usesYes_b42 B15 a0 F L r x3 (0 : Int32) x1 x2 x4 x5 K) ∧
    (¬ (((F (a0 + 3) (ix x5)) &&& x2) = 0) →
      wpX6_usesYes_b42 B15 a0 F L r x3 (1 : Int32) x1 x2 x4 x5 K))
def wpX6_usesYes_b15 (a0 : Nat) (n_ : Nat) (F : Nat → Nat → Int32) (L : Nat → Nat → Int64) (r : Nat → Nat → Nat) (x1 : Int32) (x2 : Int32) (x3 : Int32) (x4 : Int32) (x5 : Int32) (K : Int32 → cS → Prop) : Prop := match n_ with
  | 0 => False
  | n + 1 => wpX6_usesYes_b15_body (fun F L r x1 x2 x3 x4 x5 => wpX6_usesYes_b15 a0 n F L r x1 x2 x3 x4 x5 K) a0 F L r x1 x2 x3 x4 x5 K
def wpX6_usesYes_b0 (a0 : Nat) (F : Nat → Nat → Int32) (L : Nat → Nat → Int64) (r : Nat → Nat → Nat) (x1 : Int32) (K : Int32 → cS → Prop) : Prop :=
  ∃ n, wpX6_usesYes_b15 a0 n F L r x1 (jshl (1 : Int32) ((13 : Int32) + x1)) (0 : Int32) (0 : Int32) (0 : Int32) K
def wpX6_usesYes (a0 : Nat) (F : Nat → Nat → Int32) (L : Nat → Nat → Int64) (r : Nat → Nat → Nat) (x1 : Int32) (K : Int32 → cS → Prop) : Prop := wpX6_usesYes_b0 a0 F L r x1 K
def wpX3_standsAs_b27 (a0 : Nat) (a1 : Nat) (F : Nat → Nat → Int32) (L : Nat → Nat → Int64) (r : Nat → Nat → Nat) (k0 : Int32) (K : Int32 → cS → Prop) : Prop :=
  isB k0 ∧ K k0 (F, L, r)
def wpX3_standsAs_b26 (a0 : Nat) (a1 : Nat) (F : Nat → Nat → Int32) (L : Nat → Nat → Int64) (r : Nat → Nat → Nat) (K : Int32 → cS → Prop) : Prop :=
  wpX3_standsAs_b27 a0 a1 F L r (0 : Int32) K
def wpX3_standsAs_b0 (a0 : Nat) (a1 : Nat) (F : Nat → Nat → Int32) (L : Nat → Nat → Int64) (r : Nat → Nat → Nat) (K : Int32 → cS → Prop) : Prop :=
  (¬ ((F a0 0) = (F a1 0)) →
    wpX3_standsAs_b26 a0 a1 F L r K) ∧
  (((F a0 0) = (F a1 0)) →
    (¬ ((F a0 1) = (F a1 1)) →
      wpX3_standsAs_b26 a0 a1 F L r K) ∧
    (((F a0 1) = (F a1 1)) →
      wpX3_standsAs_b27 a0 a1 F L r (1 : Int32) K))
def wpX3_standsAs (a0 : Nat) (a1 : Nat) (F : Nat → Nat → Int32) (L : Nat → Nat → Int64) (r : Nat → Nat → Nat) (K : Int32 → cS → Prop) : Prop := wpX3_standsAs_b0 a0 a1 F L r K
def wpX8_partWays_b93 (a1 : Nat) (F : Nat → Nat → Int32) (L : Nat → Nat → Int64) (r : Nat → Nat → Nat) (K : Int32 → cS → Prop) : Prop :=
  K (0 : Int32) (F, L, r)
def wpX8_partWays_b24_body (B24 : (Nat → Nat → Int32) → (Nat → Nat → Int64) → (Nat → Nat → Nat) → Int32 → Prop) (a1 : Nat) (F : Nat → Nat → Int32) (L : Nat → Nat → Int64) (r : Nat → Nat → Nat) (x2 : Int32) (K : Int32 → cS → Prop) : Prop :=
  (((100 : Int32) ≤ x2) →
    wpX8_partWays_b93 a1 F L r K) ∧
  (¬ ((100 : Int32) ≤ x2) →
    (((F 86 0) = (F 66 3)) →
      wpX8_partWays_b93 a1 F L r K) ∧
    (¬ ((F 86 0) = (F 66 3)) →
      wpX3_obey 86 a1 66 F L r (fun u56 =>
        wpX3_obey 88 a1 66 u56.1 u56.2.1 u56.2.2 (fun u68 =>
        wpX3_standsAs 86 88 u68.1 u68.2.1 u68.2.2 (fun r79 u79 =>
        (¬ (r79 = 0) →
        B24 u79.1 u79.2.1 u79.2.2 (x2 + (1 : Int32))) ∧
      ((r79 = 0) →
        K (1 : Int32) (u79.1, u79.2.1, u79.2.2)))))))
def wpX8_partWays_b24 (a1 : Nat) (n_ : Nat) (F : Nat → Nat → Int32) (L : Nat → Nat → Int64) (r : Nat → Nat → Nat) (x2 : Int32) (K : Int32 → cS → Prop) : Prop := match n_ with
  | 0 => False
  | n + 1 => wpX8_partWays_b24_body (fun F L r x2 => wpX8_partWays_b24 a1 n F L r x2 K) a1 F L r x2 K
def wpX8_partWays_b0 (a1 : Nat) (F : Nat → Nat → Int32) (L : Nat → Nat → Int64) (r : Nat → Nat → Nat) (K : Int32 → cS → Prop) : Prop :=
  wpX3_setDownWiped 86 F L r (F 96 4) (fun u8 =>
    wpX3_setDownWiped 88 u8.1 u8.2.1 u8.2.2 (u8.1 96 4) (fun u19 =>
    ∃ n, wpX8_partWays_b24 a1 n u19.1 u19.2.1 u19.2.2 (0 : Int32) K))
def wpX8_partWays (a1 : Nat) (F : Nat → Nat → Int32) (L : Nat → Nat → Int64) (r : Nat → Nat → Nat) (K : Int32 → cS → Prop) : Prop := wpX8_partWays_b0 a1 F L r K
def wpX8_isNeeded_b60 (a1 : Nat) (F : Nat → Nat → Int32) (L : Nat → Nat → Int64) (r : Nat → Nat → Nat) (K : Int32 → cS → Prop) : Prop :=
  K (0 : Int32) (F, L, r)
def wpX8_isNeeded_b30_body (B30 : (Nat → Nat → Int32) → (Nat → Nat → Int64) → (Nat → Nat → Nat) → Int32 → Prop) (a1 : Nat) (F : Nat → Nat → Int32) (L : Nat → Nat → Int64) (r : Nat → Nat → Nat) (x5 : Int32) (K : Int32 → cS → Prop) : Prop :=
  (((36864 : Int32) ≤ x5) →
    wpX8_isNeeded_b60 a1 F L r K) ∧
  (¬ ((36864 : Int32) ≤ x5) →
    wpX8_nextStart F L r (fun r38 u38 =>
      ((r38 = 0) →
      wpX8_isNeeded_b60 a1 u38.1 u38.2.1 u38.2.2 K) ∧
    (¬ (r38 = 0) →
      wpX8_partWays a1 u38.1 u38.2.1 u38.2.2 (fun r46 u46 =>
        ((r46 = 0) →
        B30 u46.1 u46.2.1 u46.2.2 (x5 + (1 : Int32))) ∧
      (¬ (r46 = 0) →
        K (1 : Int32) (u46.1, u46.2.1, u46.2.2))))))
def wpX8_isNeeded_b30 (a1 : Nat) (n_ : Nat) (F : Nat → Nat → Int32) (L : Nat → Nat → Int64) (r : Nat → Nat → Nat) (x5 : Int32) (K : Int32 → cS → Prop) : Prop := match n_ with
  | 0 => False
  | n + 1 => wpX8_isNeeded_b30_body (fun F L r x5 => wpX8_isNeeded_b30 a1 n F L r x5 K) a1 F L r x5 K
def wpX8_isNeeded_b0 (a1 : Nat) (F : Nat → Nat → Int32) (L : Nat → Nat → Int64) (r : Nat → Nat → Nat) (x2 : Int32) (x3 : Int32) (x4 : Int32) (K : Int32 → cS → Prop) : Prop :=
  wpX6_usesYes a1 F L r x2 (fun r2 u2 =>
    (¬ (r2 = 0) →
    wpX8_layFirst u2.1 u2.2.1 u2.2.2 x3 x4 (fun u14 =>
      ∃ n, wpX8_isNeeded_b30 a1 n (pt u14.1 88 8 (jshl (1 : Int32) x2)) u14.2.1 u14.2.2 (0 : Int32) K)) ∧
  ((r2 = 0) →
    K (0 : Int32) (u2.1, u2.2.1, u2.2.2)))
def wpX8_isNeeded (a1 : Nat) (F : Nat → Nat → Int32) (L : Nat → Nat → Int64) (r : Nat → Nat → Nat) (x2 : Int32) (x3 : Int32) (x4 : Int32) (K : Int32 → cS → Prop) : Prop := wpX8_isNeeded_b0 a1 F L r x2 x3 x4 K
def wpX10_needs_b17 (F : Nat → Nat → Int32) (L : Nat → Nat → Int64) (r : Nat → Nat → Nat) (K : Int32 → cS → Prop) : Prop :=
  K (-1 : Int32) (F, L, r)
def wpX10_needs_b41 (F : Nat → Nat → Int32) (L : Nat → Nat → Int64) (r : Nat → Nat → Nat) (k0 : Int32) (K : Int32 → cS → Prop) : Prop :=
  K k0 (F, L, r)
def wpX10_needs_b0 (F : Nat → Nat → Int32) (L : Nat → Nat → Int64) (r : Nat → Nat → Nat) (x1 : Int32) (x2 : Int32) (x3 : Int32) (K : Int32 → cS → Prop) : Prop :=
  wpX8_isSmall x2 x3 (fun r2 u2 =>
    ((r2 = 0) →
    wpX10_needs_b17 F L r K) ∧
  (¬ (r2 = 0) →
    ((x1 < 0) →
      wpX10_needs_b17 F L r K) ∧
    (¬ (x1 < 0) →
      ((x1 < (3 : Int32)) →
        kd (r 0 3) = 6 ∧ wpX8_isNeeded (r 0 3) F L r x1 x2 x3 (fun r30 u30 =>
          ((r30 = 0) →
          wpX10_needs_b41 u30.1 u30.2.1 u30.2.2 (0 : Int32) K) ∧
        (¬ (r30 = 0) →
          wpX10_needs_b41 u30.1 u30.2.1 u30.2.2 (1 : Int32) K))) ∧
      (¬ (x1 < (3 : Int32)) →
        wpX10_needs_b17 F L r K))))
def wpX10_needs (F : Nat → Nat → Int32) (L : Nat → Nat → Int64) (r : Nat → Nat → Nat) (x1 : Int32) (x2 : Int32) (x3 : Int32) (K : Int32 → cS → Prop) : Prop := wpX10_needs_b0 F L r x1 x2 x3 K
def wpX10_knows_b17_body (B17 : (Nat → Nat → Int32) → (Nat → Nat → Int64) → (Nat → Nat → Nat) → Int32 → Int32 → Prop) (F : Nat → Nat → Int32) (L : Nat → Nat → Int64) (r : Nat → Nat → Nat) (x2 : Int32) (x3 : Int32) (K : Int32 → cS → Prop) : Prop :=
  (((F 46 2) ≤ x3) →
    K (-1 : Int32) (F, L, r)) ∧
  (¬ ((F 46 2) ≤ x3) →
    (¬ (x2 = (F 46 3)) →
      wpX3_wayOf 74 F L r x2 (fun r46 u46 =>
        wpX1_isWalled 46 u46.1 u46.2.1 u46.2.2 x2 r46 (fun r58 u58 =>
        ((r58 = 0) →
        wpX1_ahead 46 u58.1 u58.2.1 u58.2.2 x2 r46 (fun r73 u73 =>
          B17 u73.1 u73.2.1 u73.2.2 r73 (x3 + (1 : Int32)))) ∧
      (¬ (r58 = 0) →
        K (-1 : Int32) (u58.1, u58.2.1, u58.2.2))))) ∧
    ((x2 = (F 46 3)) →
      K x3 (F, L, r)))
def wpX10_knows_b17 (n_ : Nat) (F : Nat → Nat → Int32) (L : Nat → Nat → Int64) (r : Nat → Nat → Nat) (x2 : Int32) (x3 : Int32) (K : Int32 → cS → Prop) : Prop := match n_ with
  | 0 => False
  | n + 1 => wpX10_knows_b17_body (fun F L r x2 x3 => wpX10_knows_b17 n F L r x2 x3 K) F L r x2 x3 K
def wpX10_knows_b0 (F : Nat → Nat → Int32) (L : Nat → Nat → Int64) (r : Nat → Nat → Nat) (x1 : Int32) (K : Int32 → cS → Prop) : Prop :=
  wpX1_has 46 F L r x1 (fun r5 u5 =>
    (¬ (r5 = 0) →
    ∃ n, wpX10_knows_b17 n u5.1 u5.2.1 u5.2.2 x1 (0 : Int32) K) ∧
  ((r5 = 0) →
    K (-1 : Int32) (u5.1, u5.2.1, u5.2.2)))
def wpX10_knows (F : Nat → Nat → Int32) (L : Nat → Nat → Int64) (r : Nat → Nat → Nat) (x1 : Int32) (K : Int32 → cS → Prop) : Prop := wpX10_knows_b0 F L r x1 K
def wpX3_inputs_b48 (a0 : Nat) (a1 : Nat) (F : Nat → Nat → Int32) (L : Nat → Nat → Int64) (r : Nat → Nat → Nat) (x2 : Int32) (K : Int32 → cS → Prop) : Prop :=
  K x2 (F, L, r)
def wpX3_inputs_b32 (a0 : Nat) (a1 : Nat) (F : Nat → Nat → Int32) (L : Nat → Nat → Int64) (r : Nat → Nat → Nat) (x2 : Int32) (K : Int32 → cS → Prop) : Prop :=
  (¬ ((F a0 0) = (F a1 3)) →
    wpX3_inputs_b48 a0 a1 F L r x2 K) ∧
  (((F a0 0) = (F a1 3)) →
    wpX3_inputs_b48 a0 a1 F L r (x2 ||| (2097152 : Int32)) K)
def wpX3_inputs_b0 (a0 : Nat) (a1 : Nat) (F : Nat → Nat → Int32) (L : Nat → Nat → Int64) (r : Nat → Nat → Nat) (K : Int32 → cS → Prop) : Prop :=
  wpX3_wayOf a0 F L r (F a0 0) (fun r5 u5 =>
    wpX1_isWalled a1 u5.1 u5.2.1 u5.2.2 (u5.1 a0 0) (u5.1 a0 1) (fun r21 u21 =>
    ((r21 = 0) →
    wpX3_inputs_b32 a0 a1 u21.1 u21.2.1 u21.2.2 (jshl r5 (22 : Int32)) K) ∧
  (¬ (r21 = 0) →
    wpX3_inputs_b32 a0 a1 u21.1 u21.2.1 u21.2.2 ((jshl r5 (22 : Int32)) ||| (1048576 : Int32)) K)))
def wpX3_inputs (a0 : Nat) (a1 : Nat) (F : Nat → Nat → Int32) (L : Nat → Nat → Int64) (r : Nat → Nat → Nat) (K : Int32 → cS → Prop) : Prop := wpX3_inputs_b0 a0 a1 F L r K
def wpX4_valueOf_b10 (a0 : Nat) (F : Nat → Nat → Int32) (L : Nat → Nat → Int64) (r : Nat → Nat → Nat) (K : Int32 → cS → Prop) : Prop :=
  K (0 : Int32) (F, L, r)
def wpX4_valueOf_b108 (B22 : (Nat → Nat → Int32) → (Nat → Nat → Int64) → (Nat → Nat → Nat) → Int32 → Int32 → Int32 → Int32 → Prop) (a0 : Nat) (F : Nat → Nat → Int32) (L : Nat → Nat → Int64) (r : Nat → Nat → Nat) (x1 : Int32) (x2 : Int32) (x3 : Int32) (x4 : Int32) (K : Int32 → cS → Prop) : Prop :=
  B22 F L r x1 x2 x3 (x4 + (1 : Int32))
def wpX4_valueOf_b107 (B22 : (Nat → Nat → Int32) → (Nat → Nat → Int64) → (Nat → Nat → Nat) → Int32 → Int32 → Int32 → Int32 → Prop) (a0 : Nat) (F : Nat → Nat → Int32) (L : Nat → Nat → Int64) (r : Nat → Nat → Nat) (k0 : Int32) (x1 : Int32) (x2 : Int32) (x4 : Int32) (K : Int32 → cS → Prop) : Prop :=
  wpX4_valueOf_b108 B22 a0 F L r x1 x2 k0 x4 K
def wpX4_valueOf_b22_body (B22 : (Nat → Nat → Int32) → (Nat → Nat → Int64) → (Nat → Nat → Nat) → Int32 → Int32 → Int32 → Int32 → Prop) (a0 : Nat) (F : Nat → Nat → Int32) (L : Nat → Nat → Int64) (r : Nat → Nat → Nat) (x1 : Int32) (x2 : Int32) (x3 : Int32) (x4 : Int32) (K : Int32 → cS → Prop) : Prop :=
  vp_in x1 24 ∧ (((F (a0 + 3) (ix x1)) ≤ x4) →
    K (x3 &&& (1 : Int32)) (F, L, r)) ∧
  (¬ ((F (a0 + 3) (ix x1)) ≤ x4) →
    vp_in x4 64 ∧ (((24 : Int32) ≤ (F (a0 + 1) (ix x4))) →
      (¬ ((F (a0 + 1) (ix x4)) = (26 : Int32)) →
        (¬ ((F (a0 + 1) (ix x4)) = (24 : Int32)) →
          wpX4_valueOf_b107 B22 a0 F L r ((jushr x3 (1 : Int32)) &&& ((x3 &&& (1 : Int32)) ||| (-2 : Int32))) x1 x2 x4 K) ∧
        (((F (a0 + 1) (ix x4)) = (24 : Int32)) →
          wpX4_valueOf_b107 B22 a0 F L r ((jushr x3 (1 : Int32)) ||| (x3 &&& (1 : Int32))) x1 x2 x4 K)) ∧
      (((F (a0 + 1) (ix x4)) = (26 : Int32)) →
        wpX4_valueOf_b108 B22 a0 F L r x1 x2 (x3 ^^^ (1 : Int32)) x4 K)) ∧
    (¬ ((24 : Int32) ≤ (F (a0 + 1) (ix x4))) →
      ∀ y59 : Int32, y59 = (jshl x3 (1 : Int32)) ||| ((jushr x2 (F (a0 + 1) (ix x4))) &&& (1 : Int32)) → wpX4_valueOf_b108 B22 a0 F L r x1 x2 y59 x4 K))
def wpX4_valueOf_b22 (a0 : Nat) (n_ : Nat) (F : Nat → Nat → Int32) (L : Nat → Nat → Int64) (r : Nat → Nat → Nat) (x1 : Int32) (x2 : Int32) (x3 : Int32) (x4 : Int32) (K : Int32 → cS → Prop) : Prop := match n_ with
  | 0 => False
  | n + 1 => wpX4_valueOf_b22_body (fun F L r x1 x2 x3 x4 => wpX4_valueOf_b22 a0 n F L r x1 x2 x3 x4 K) a0 F L r x1 x2 x3 x4 K
def wpX4_valueOf_b0 (a0 : Nat) (F : Nat → Nat → Int32) (L : Nat → Nat → Int64) (r : Nat → Nat → Nat) (x1 : Int32) (x2 : Int32) (K : Int32 → cS → Prop) : Prop :=
  ((x1 < 0) →
    wpX4_valueOf_b10 a0 F L r K) ∧
  (¬ (x1 < 0) →
    ((x1 < (24 : Int32)) →
      vp_in x1 24 ∧ ∃ n, wpX4_valueOf_b22 a0 n F L r x1 x2 (0 : Int32) (F (a0 + 2) (ix x1)) K) ∧
    (¬ (x1 < (24 : Int32)) →
      wpX4_valueOf_b10 a0 F L r K))
def wpX4_valueOf (a0 : Nat) (F : Nat → Nat → Int32) (L : Nat → Nat → Int64) (r : Nat → Nat → Nat) (x1 : Int32) (x2 : Int32) (K : Int32 → cS → Prop) : Prop := wpX4_valueOf_b0 a0 F L r x1 x2 K
def wpX4_relaysBy_b4_body (B4 : (Nat → Nat → Int32) → (Nat → Nat → Int64) → (Nat → Nat → Nat) → Int32 → Int32 → Int32 → Prop) (a0 : Nat) (F : Nat → Nat → Int32) (L : Nat → Nat → Int64) (r : Nat → Nat → Nat) (x1 : Int32) (x2 : Int32) (x3 : Int32) (K : Int32 → cS → Prop) : Prop :=
  (((F a0 0) ≤ x3) →
    K x2 (F, L, r)) ∧
  (¬ ((F a0 0) ≤ x3) →
    wpX4_valueOf a0 F L r x3 x1 (fun r16 u16 =>
      B4 u16.1 u16.2.1 u16.2.2 x1 (x2 ||| (jshl r16 x3)) (x3 + (1 : Int32))))
def wpX4_relaysBy_b4 (a0 : Nat) (n_ : Nat) (F : Nat → Nat → Int32) (L : Nat → Nat → Int64) (r : Nat → Nat → Nat) (x1 : Int32) (x2 : Int32) (x3 : Int32) (K : Int32 → cS → Prop) : Prop := match n_ with
  | 0 => False
  | n + 1 => wpX4_relaysBy_b4_body (fun F L r x1 x2 x3 => wpX4_relaysBy_b4 a0 n F L r x1 x2 x3 K) a0 F L r x1 x2 x3 K
def wpX4_relaysBy_b0 (a0 : Nat) (F : Nat → Nat → Int32) (L : Nat → Nat → Int64) (r : Nat → Nat → Nat) (x1 : Int32) (K : Int32 → cS → Prop) : Prop :=
  ∃ n, wpX4_relaysBy_b4 a0 n F L r x1 (0 : Int32) (0 : Int32) K
def wpX4_relaysBy (a0 : Nat) (F : Nat → Nat → Int32) (L : Nat → Nat → Int64) (r : Nat → Nat → Nat) (x1 : Int32) (K : Int32 → cS → Prop) : Prop := wpX4_relaysBy_b0 a0 F L r x1 K
def wpX4_outputsBy_b4_body (B4 : (Nat → Nat → Int32) → (Nat → Nat → Int64) → (Nat → Nat → Nat) → Int32 → Int32 → Int32 → Prop) (a0 : Nat) (F : Nat → Nat → Int32) (L : Nat → Nat → Int64) (r : Nat → Nat → Nat) (x1 : Int32) (x2 : Int32) (x3 : Int32) (K : Int32 → cS → Prop) : Prop :=
  (((4 : Int32) < x3) →
    K x2 (F, L, r)) ∧
  (¬ ((4 : Int32) < x3) →
    wpX4_placeOfOutput x3 (fun r12 u12 =>
      wpX4_valueOf a0 F L r r12 x1 (fun r16 u16 =>
      B4 u16.1 u16.2.1 u16.2.2 x1 (x2 ||| (jshl r16 x3)) (x3 + (1 : Int32)))))
def wpX4_outputsBy_b4 (a0 : Nat) (n_ : Nat) (F : Nat → Nat → Int32) (L : Nat → Nat → Int64) (r : Nat → Nat → Nat) (x1 : Int32) (x2 : Int32) (x3 : Int32) (K : Int32 → cS → Prop) : Prop := match n_ with
  | 0 => False
  | n + 1 => wpX4_outputsBy_b4_body (fun F L r x1 x2 x3 => wpX4_outputsBy_b4 a0 n F L r x1 x2 x3 K) a0 F L r x1 x2 x3 K
def wpX4_outputsBy_b0 (a0 : Nat) (F : Nat → Nat → Int32) (L : Nat → Nat → Int64) (r : Nat → Nat → Nat) (x1 : Int32) (K : Int32 → cS → Prop) : Prop :=
  ∃ n, wpX4_outputsBy_b4 a0 n F L r x1 (0 : Int32) (1 : Int32) K
def wpX4_outputsBy (a0 : Nat) (F : Nat → Nat → Int32) (L : Nat → Nat → Int64) (r : Nat → Nat → Nat) (x1 : Int32) (K : Int32 → cS → Prop) : Prop := wpX4_outputsBy_b0 a0 F L r x1 K
def wpX3_doOutputs_b51 (a0 : Nat) (a2 : Nat) (F : Nat → Nat → Int32) (L : Nat → Nat → Int64) (r : Nat → Nat → Nat) (K : cS → Prop) : Prop :=
  K (F, L, r)
def wpX3_doOutputs_b38 (a0 : Nat) (a2 : Nat) (F : Nat → Nat → Int32) (L : Nat → Nat → Int64) (r : Nat → Nat → Nat) (x1 : Int32) (K : cS → Prop) : Prop :=
  ((((jshr x1 (1 : Int32)) &&& (1 : Int32)) = 0) →
    wpX3_doOutputs_b51 a0 a2 F L r K) ∧
  (¬ (((jshr x1 (1 : Int32)) &&& (1 : Int32)) = 0) →
    wpX3_advance a0 a2 F L r (fun u48 =>
      wpX3_doOutputs_b51 a0 a2 u48.1 u48.2.1 u48.2.2 K))
def wpX3_doOutputs_b25 (a0 : Nat) (a2 : Nat) (F : Nat → Nat → Int32) (L : Nat → Nat → Int64) (r : Nat → Nat → Nat) (x1 : Int32) (K : cS → Prop) : Prop :=
  ((((jshr x1 (3 : Int32)) &&& (1 : Int32)) = 0) →
    wpX3_doOutputs_b38 a0 a2 F L r x1 K) ∧
  (¬ (((jshr x1 (3 : Int32)) &&& (1 : Int32)) = 0) →
    wpX3_turn a0 F L r (1 : Int32) (fun u35 =>
      wpX3_doOutputs_b38 a0 a2 u35.1 u35.2.1 u35.2.2 x1 K))
def wpX3_doOutputs_b12 (a0 : Nat) (a2 : Nat) (F : Nat → Nat → Int32) (L : Nat → Nat → Int64) (r : Nat → Nat → Nat) (x1 : Int32) (K : cS → Prop) : Prop :=
  ((((jshr x1 (2 : Int32)) &&& (1 : Int32)) = 0) →
    wpX3_doOutputs_b25 a0 a2 F L r x1 K) ∧
  (¬ (((jshr x1 (2 : Int32)) &&& (1 : Int32)) = 0) →
    wpX3_turn a0 F L r (3 : Int32) (fun u22 =>
      wpX3_doOutputs_b25 a0 a2 u22.1 u22.2.1 u22.2.2 x1 K))
def wpX3_doOutputs_b0 (a0 : Nat) (a2 : Nat) (F : Nat → Nat → Int32) (L : Nat → Nat → Int64) (r : Nat → Nat → Nat) (x1 : Int32) (K : cS → Prop) : Prop :=
  ((((jshr x1 (4 : Int32)) &&& (1 : Int32)) = 0) →
    wpX3_doOutputs_b12 a0 a2 F L r x1 K) ∧
  (¬ (((jshr x1 (4 : Int32)) &&& (1 : Int32)) = 0) →
    wpX3_markWay a0 F L r (fun u9 =>
      wpX3_doOutputs_b12 a0 a2 u9.1 u9.2.1 u9.2.2 x1 K))
def wpX3_doOutputs (a0 : Nat) (a2 : Nat) (F : Nat → Nat → Int32) (L : Nat → Nat → Int64) (r : Nat → Nat → Nat) (x1 : Int32) (K : cS → Prop) : Prop := wpX3_doOutputs_b0 a0 a2 F L r x1 K
def wpX0_step_b0 (a0 : Nat) (a1 : Nat) (a2 : Nat) (a3 : Nat) (F : Nat → Nat → Int32) (L : Nat → Nat → Int64) (r : Nat → Nat → Nat) (K : cS → Prop) : Prop :=
  wpX3_inputs a2 a3 F L r (fun r3 u3 =>
    wpX4_relaysBy a1 (pt (pt u3.1 a0 6 r3) a0 4 ((pt u3.1 a0 6 r3) a0 0)) u3.2.1 u3.2.2 (((pt (pt u3.1 a0 6 r3) a0 4 ((pt u3.1 a0 6 r3) a0 0)) a0 4) ||| ((pt (pt u3.1 a0 6 r3) a0 4 ((pt u3.1 a0 6 r3) a0 0)) a0 6)) (fun r28 u28 =>
    wpX0_settle a0 u28.1 u28.2.1 u28.2.2 r28 (fun u31 =>
    wpX4_outputsBy a1 (pt (pt u31.1 a0 5 (u31.1 a0 0)) a0 3 (1 : Int32)) u31.2.1 u31.2.2 (((pt (pt u31.1 a0 5 (u31.1 a0 0)) a0 3 (1 : Int32)) a0 5) ||| ((pt (pt u31.1 a0 5 (u31.1 a0 0)) a0 3 (1 : Int32)) a0 6)) (fun r58 u58 =>
    wpX3_doOutputs a2 a3 u58.1 u58.2.1 u58.2.2 r58 (fun u62 =>
    K (u62.1, u62.2.1, u62.2.2))))))
def wpX0_step (a0 : Nat) (a1 : Nat) (a2 : Nat) (a3 : Nat) (F : Nat → Nat → Int32) (L : Nat → Nat → Int64) (r : Nat → Nat → Nat) (K : cS → Prop) : Prop := wpX0_step_b0 a0 a1 a2 a3 F L r K
def wpX10_pull_b11 (F : Nat → Nat → Int32) (L : Nat → Nat → Int64) (r : Nat → Nat → Nat) (K : Int32 → cS → Prop) : Prop :=
  K (-1 : Int32) (F, L, r)
def wpX10_pull_b23_body (B23 : (Nat → Nat → Int32) → (Nat → Nat → Int64) → (Nat → Nat → Nat) → Int32 → Int32 → Prop) (F : Nat → Nat → Int32) (L : Nat → Nat → Int64) (r : Nat → Nat → Nat) (x1 : Int32) (x2 : Int32) (K : Int32 → cS → Prop) : Prop :=
  ((x1 ≤ x2) →
    K (F 74 7) (F, L, r)) ∧
  (¬ (x1 ≤ x2) →
    kd (r 0 4) = 4 ∧ wpX0_step 43 (r 0 4) 74 46 F L r (fun u44 =>
      B23 u44.1 u44.2.1 u44.2.2 x1 (x2 + (1 : Int32))))
def wpX10_pull_b23 (n_ : Nat) (F : Nat → Nat → Int32) (L : Nat → Nat → Int64) (r : Nat → Nat → Nat) (x1 : Int32) (x2 : Int32) (K : Int32 → cS → Prop) : Prop := match n_ with
  | 0 => False
  | n + 1 => wpX10_pull_b23_body (fun F L r x1 x2 => wpX10_pull_b23 n F L r x1 x2 K) F L r x1 x2 K
def wpX10_pull_b0 (F : Nat → Nat → Int32) (L : Nat → Nat → Int64) (r : Nat → Nat → Nat) (x1 : Int32) (K : Int32 → cS → Prop) : Prop :=
  ((x1 < 0) →
    wpX10_pull_b11 F L r K) ∧
  (¬ (x1 < 0) →
    ((x1 ≤ (5000 : Int32)) →
      ∃ n, wpX10_pull_b23 n (pt F 74 7 (0 : Int32)) L r x1 (0 : Int32) K) ∧
    (¬ (x1 ≤ (5000 : Int32)) →
      wpX10_pull_b11 F L r K))
def wpX10_pull (F : Nat → Nat → Int32) (L : Nat → Nat → Int64) (r : Nat → Nat → Nat) (x1 : Int32) (K : Int32 → cS → Prop) : Prop := wpX10_pull_b0 F L r x1 K
def wpX10_pullRun_b11 (F : Nat → Nat → Int32) (L : Nat → Nat → Int64) (r : Nat → Nat → Nat) (K : Int32 → cS → Prop) : Prop :=
  K (-1 : Int32) (F, L, r)
def wpX10_pullRun_b87 (F : Nat → Nat → Int32) (L : Nat → Nat → Int64) (r : Nat → Nat → Nat) (k0 : Int32) (K : Int32 → cS → Prop) : Prop :=
  K k0 (F, L, r)
def wpX10_pullRun_b15_body (B15 : (Nat → Nat → Int32) → (Nat → Nat → Int64) → (Nat → Nat → Nat) → Int32 → Int32 → Prop) (F : Nat → Nat → Int32) (L : Nat → Nat → Int64) (r : Nat → Nat → Nat) (x1 : Int32) (x2 : Int32) (K : Int32 → cS → Prop) : Prop :=
  ((x1 ≤ x2) →
    (¬ ((F 74 0) = (F 46 3)) →
      wpX10_pullRun_b87 F L r (-2 : Int32) K) ∧
    (((F 74 0) = (F 46 3)) →
      wpX10_pullRun_b87 F L r x1 K)) ∧
  (¬ (x1 ≤ x2) →
    (¬ ((F 74 0) = (F 46 3)) →
      kd (r 0 4) = 4 ∧ wpX0_step 43 (r 0 4) 74 46 F L r (fun u55 =>
        B15 u55.1 u55.2.1 u55.2.2 x1 (x2 + (1 : Int32)))) ∧
    (((F 74 0) = (F 46 3)) →
      K x2 (F, L, r)))
def wpX10_pullRun_b15 (n_ : Nat) (F : Nat → Nat → Int32) (L : Nat → Nat → Int64) (r : Nat → Nat → Nat) (x1 : Int32) (x2 : Int32) (K : Int32 → cS → Prop) : Prop := match n_ with
  | 0 => False
  | n + 1 => wpX10_pullRun_b15_body (fun F L r x1 x2 => wpX10_pullRun_b15 n F L r x1 x2 K) F L r x1 x2 K
def wpX10_pullRun_b0 (F : Nat → Nat → Int32) (L : Nat → Nat → Int64) (r : Nat → Nat → Nat) (x1 : Int32) (K : Int32 → cS → Prop) : Prop :=
  ((x1 < 0) →
    wpX10_pullRun_b11 F L r K) ∧
  (¬ (x1 < 0) →
    ((x1 ≤ (5000 : Int32)) →
      ∃ n, wpX10_pullRun_b15 n F L r x1 (0 : Int32) K) ∧
    (¬ (x1 ≤ (5000 : Int32)) →
      wpX10_pullRun_b11 F L r K))
def wpX10_pullRun (F : Nat → Nat → Int32) (L : Nat → Nat → Int64) (r : Nat → Nat → Nat) (x1 : Int32) (K : Int32 → cS → Prop) : Prop := wpX10_pullRun_b0 F L r x1 K
def wpX10_relays_b0 (F : Nat → Nat → Int32) (L : Nat → Nat → Int64) (r : Nat → Nat → Nat) (K : Int32 → cS → Prop) : Prop :=
  K (F 43 0) (F, L, r)
def wpX10_relays (F : Nat → Nat → Int32) (L : Nat → Nat → Int64) (r : Nat → Nat → Nat) (K : Int32 → cS → Prop) : Prop := wpX10_relays_b0 F L r K
def wpX0_wouldStay_b38 (a0 : Nat) (a1 : Nat) (F : Nat → Nat → Int32) (L : Nat → Nat → Int64) (r : Nat → Nat → Nat) (k0 : Int32) (K : Int32 → cS → Prop) : Prop :=
  isB k0 ∧ K k0 (F, L, r)
def wpX0_wouldStay_b0 (a0 : Nat) (a1 : Nat) (F : Nat → Nat → Int32) (L : Nat → Nat → Int64) (r : Nat → Nat → Nat) (x2 : Int32) (x3 : Int32) (K : Int32 → cS → Prop) : Prop :=
  ∀ y13 : Int32, y13 = ((F a0 4) ^^^ (jshl (1 : Int32) x3)) ||| (F a0 6) → wpX4_valueOf a1 F L r x2 y13 (fun r19 u19 =>
    (¬ (r19 = ((jshr (u19.1 a0 4) x2) &&& (1 : Int32))) →
    wpX0_wouldStay_b38 a0 a1 u19.1 u19.2.1 u19.2.2 (0 : Int32) K) ∧
  ((r19 = ((jshr (u19.1 a0 4) x2) &&& (1 : Int32))) →
    wpX0_wouldStay_b38 a0 a1 u19.1 u19.2.1 u19.2.2 (1 : Int32) K))
def wpX0_wouldStay (a0 : Nat) (a1 : Nat) (F : Nat → Nat → Int32) (L : Nat → Nat → Int64) (r : Nat → Nat → Nat) (x2 : Int32) (x3 : Int32) (K : Int32 → cS → Prop) : Prop := wpX0_wouldStay_b0 a0 a1 F L r x2 x3 K
def wpX0_raceOf_b37 (a0 : Nat) (a1 : Nat) (F : Nat → Nat → Int32) (L : Nat → Nat → Int64) (r : Nat → Nat → Nat) (k0 : Int32) (K : Int32 → cS → Prop) : Prop :=
  K k0 (F, L, r)
def wpX0_raceOf_b0 (a0 : Nat) (a1 : Nat) (F : Nat → Nat → Int32) (L : Nat → Nat → Int64) (r : Nat → Nat → Nat) (x2 : Int32) (x3 : Int32) (K : Int32 → cS → Prop) : Prop :=
  wpX0_wouldStay a0 a1 F L r x2 x3 (fun r4 u4 =>
    ((r4 = 0) →
    wpX0_wouldStay a0 a1 u4.1 u4.2.1 u4.2.2 x3 x2 (fun r21 u21 =>
      ((r21 = 0) →
      wpX0_raceOf_b37 a0 a1 u21.1 u21.2.1 u21.2.2 (-1 : Int32) K) ∧
    (¬ (r21 = 0) →
      wpX0_raceOf_b37 a0 a1 u21.1 u21.2.1 u21.2.2 (((32 : Int32) * x3) + x2) K))) ∧
  (¬ (r4 = 0) →
    K (((32 : Int32) * x2) + x3) (u4.1, u4.2.1, u4.2.2)))
def wpX0_raceOf (a0 : Nat) (a1 : Nat) (F : Nat → Nat → Int32) (L : Nat → Nat → Int64) (r : Nat → Nat → Nat) (x2 : Int32) (x3 : Int32) (K : Int32 → cS → Prop) : Prop := wpX0_raceOf_b0 a0 a1 F L r x2 x3 K
def wpX0_firstRace_b81 (B21 : (Nat → Nat → Int32) → (Nat → Nat → Int64) → (Nat → Nat → Nat) → Int32 → Int32 → Prop) (B34 : (Nat → Nat → Int32) → (Nat → Nat → Int64) → (Nat → Nat → Nat) → Int32 → Int32 → Int32 → Prop) (a0 : Nat) (a1 : Nat) (F : Nat → Nat → Int32) (L : Nat → Nat → Int64) (r : Nat → Nat → Nat) (x2 : Int32) (x3 : Int32) (x4 : Int32) (K : Int32 → cS → Prop) : Prop :=
  B34 F L r x2 x3 (x4 + (1 : Int32))
def wpX0_firstRace_b34_body (B21 : (Nat → Nat → Int32) → (Nat → Nat → Int64) → (Nat → Nat → Nat) → Int32 → Int32 → Prop) (B34 : (Nat → Nat → Int32) → (Nat → Nat → Int64) → (Nat → Nat → Nat) → Int32 → Int32 → Int32 → Prop) (a0 : Nat) (a1 : Nat) (F : Nat → Nat → Int32) (L : Nat → Nat → Int64) (r : Nat → Nat → Nat) (x2 : Int32) (x3 : Int32) (x4 : Int32) (K : Int32 → cS → Prop) : Prop :=
  (((F a1 0) ≤ x4) →
    B21 F L r x2 (x3 + (1 : Int32))) ∧
  (¬ ((F a1 0) ≤ x4) →
    (¬ ((x2 &&& ((jshl (1 : Int32) x3) ||| (jshl (1 : Int32) x4))) = ((jshl (1 : Int32) x3) ||| (jshl (1 : Int32) x4))) →
      wpX0_firstRace_b81 B21 B34 a0 a1 F L r x2 x3 x4 K) ∧
    (((x2 &&& ((jshl (1 : Int32) x3) ||| (jshl (1 : Int32) x4))) = ((jshl (1 : Int32) x3) ||| (jshl (1 : Int32) x4))) →
      wpX0_raceOf a0 a1 F L r x3 x4 (fun r67 u67 =>
        ((r67 = (-1 : Int32)) →
        wpX0_firstRace_b81 B21 B34 a0 a1 u67.1 u67.2.1 u67.2.2 x2 x3 x4 K) ∧
      (¬ (r67 = (-1 : Int32)) →
        K r67 (u67.1, u67.2.1, u67.2.2)))))
def wpX0_firstRace_b34 (B21 : (Nat → Nat → Int32) → (Nat → Nat → Int64) → (Nat → Nat → Nat) → Int32 → Int32 → Prop) (a0 : Nat) (a1 : Nat) (n_ : Nat) (F : Nat → Nat → Int32) (L : Nat → Nat → Int64) (r : Nat → Nat → Nat) (x2 : Int32) (x3 : Int32) (x4 : Int32) (K : Int32 → cS → Prop) : Prop := match n_ with
  | 0 => False
  | n + 1 => wpX0_firstRace_b34_body B21 (fun F L r x2 x3 x4 => wpX0_firstRace_b34 B21 a0 a1 n F L r x2 x3 x4 K) a0 a1 F L r x2 x3 x4 K
def wpX0_firstRace_b21_body (B21 : (Nat → Nat → Int32) → (Nat → Nat → Int64) → (Nat → Nat → Nat) → Int32 → Int32 → Prop) (a0 : Nat) (a1 : Nat) (F : Nat → Nat → Int32) (L : Nat → Nat → Int64) (r : Nat → Nat → Nat) (x2 : Int32) (x3 : Int32) (K : Int32 → cS → Prop) : Prop :=
  (((F a1 0) ≤ x3) →
    K (-1 : Int32) (F, L, r)) ∧
  (¬ ((F a1 0) ≤ x3) →
    ∃ n, wpX0_firstRace_b34 B21 a0 a1 n F L r x2 x3 (x3 + (1 : Int32)) K)
def wpX0_firstRace_b21 (a0 : Nat) (a1 : Nat) (n_ : Nat) (F : Nat → Nat → Int32) (L : Nat → Nat → Int64) (r : Nat → Nat → Nat) (x2 : Int32) (x3 : Int32) (K : Int32 → cS → Prop) : Prop := match n_ with
  | 0 => False
  | n + 1 => wpX0_firstRace_b21_body (fun F L r x2 x3 => wpX0_firstRace_b21 a0 a1 n F L r x2 x3 K) a0 a1 F L r x2 x3 K
def wpX0_firstRace_b0 (a0 : Nat) (a1 : Nat) (F : Nat → Nat → Int32) (L : Nat → Nat → Int64) (r : Nat → Nat → Nat) (K : Int32 → cS → Prop) : Prop :=
  (¬ ((F a0 3) = 0) →
    ∃ n, wpX0_firstRace_b21 a0 a1 n F L r ((F a0 4) ^^^ (F a0 5)) (0 : Int32) K) ∧
  (((F a0 3) = 0) →
    K (-1 : Int32) (F, L, r))
def wpX0_firstRace (a0 : Nat) (a1 : Nat) (F : Nat → Nat → Int32) (L : Nat → Nat → Int64) (r : Nat → Nat → Nat) (K : Int32 → cS → Prop) : Prop := wpX0_firstRace_b0 a0 a1 F L r K
def wpX10_race_b0 (F : Nat → Nat → Int32) (L : Nat → Nat → Int64) (r : Nat → Nat → Nat) (K : Int32 → cS → Prop) : Prop :=
  kd (r 0 4) = 4 ∧ wpX0_firstRace 43 (r 0 4) F L r (fun r8 u8 =>
    K r8 (u8.1, u8.2.1, u8.2.2))
def wpX10_race (F : Nat → Nat → Int32) (L : Nat → Nat → Int64) (r : Nat → Nat → Nat) (K : Int32 → cS → Prop) : Prop := wpX10_race_b0 F L r K
def wpX0_free_b0 (a0 : Nat) (F : Nat → Nat → Int32) (L : Nat → Nat → Int64) (r : Nat → Nat → Nat) (x1 : Int32) (K : cS → Prop) : Prop :=
  K (pt (pt F a0 1 ((F a0 1) &&& ((jshl (1 : Int32) x1) ^^^ (-1 : Int32)))) a0 2 (((pt F a0 1 ((F a0 1) &&& ((jshl (1 : Int32) x1) ^^^ (-1 : Int32)))) a0 2) &&& ((jshl (1 : Int32) x1) ^^^ (-1 : Int32))), L, r)
def wpX0_free (a0 : Nat) (F : Nat → Nat → Int32) (L : Nat → Nat → Int64) (r : Nat → Nat → Nat) (x1 : Int32) (K : cS → Prop) : Prop := wpX0_free_b0 a0 F L r x1 K
def wpX0_jam_b36 (a0 : Nat) (F : Nat → Nat → Int32) (L : Nat → Nat → Int64) (r : Nat → Nat → Nat) (k1 : Int32) (K : cS → Prop) : Prop :=
  wpX0_settle a0 (pt F a0 2 k1) L r ((pt F a0 2 k1) a0 0) (fun u44 =>
    K (u44.1, u44.2.1, u44.2.2))
def wpX0_jam_b0 (a0 : Nat) (F : Nat → Nat → Int32) (L : Nat → Nat → Int64) (r : Nat → Nat → Nat) (x1 : Int32) (x2 : Int32) (K : cS → Prop) : Prop :=
  ((x2 = 0) →
    wpX0_jam_b36 a0 (pt F a0 1 ((F a0 1) ||| (jshl (1 : Int32) x1))) L r (((pt F a0 1 ((F a0 1) ||| (jshl (1 : Int32) x1))) a0 2) &&& ((jshl (1 : Int32) x1) ^^^ (-1 : Int32))) K) ∧
  (¬ (x2 = 0) →
    wpX0_jam_b36 a0 (pt F a0 1 ((F a0 1) ||| (jshl (1 : Int32) x1))) L r (((pt F a0 1 ((F a0 1) ||| (jshl (1 : Int32) x1))) a0 2) ||| (jshl (1 : Int32) x1)) K)
def wpX0_jam (a0 : Nat) (F : Nat → Nat → Int32) (L : Nat → Nat → Int64) (r : Nat → Nat → Nat) (x1 : Int32) (x2 : Int32) (K : cS → Prop) : Prop := wpX0_jam_b0 a0 F L r x1 x2 K
def wpX10_stick_b24 (F : Nat → Nat → Int32) (L : Nat → Nat → Int64) (r : Nat → Nat → Nat) (K : Int32 → cS → Prop) : Prop :=
  K (0 : Int32) (F, L, r)
def wpX10_stick_b60 (F : Nat → Nat → Int32) (L : Nat → Nat → Int64) (r : Nat → Nat → Nat) (K : Int32 → cS → Prop) : Prop :=
  K (1 : Int32) (F, L, r)
def wpX10_stick_b57 (F : Nat → Nat → Int32) (L : Nat → Nat → Int64) (r : Nat → Nat → Nat) (k1 : Int32) (k2 : Int32) (K : Int32 → cS → Prop) : Prop :=
  wpX0_jam 43 F L r k1 k2 (fun u57 =>
    wpX10_stick_b60 u57.1 u57.2.1 u57.2.2 K)
def wpX10_stick_b0 (F : Nat → Nat → Int32) (L : Nat → Nat → Int64) (r : Nat → Nat → Nat) (x1 : Int32) (x2 : Int32) (K : Int32 → cS → Prop) : Prop :=
  ((x1 < 0) →
    wpX10_stick_b24 F L r K) ∧
  (¬ (x1 < 0) →
    kd (r 0 4) = 4 ∧ (((F (r 0 4) 0) ≤ x1) →
      wpX10_stick_b24 F L r K) ∧
    (¬ ((F (r 0 4) 0) ≤ x1) →
      ((x2 < 0) →
        wpX10_stick_b24 F L r K) ∧
      (¬ (x2 < 0) →
        ((x2 ≤ (2 : Int32)) →
          (¬ (x2 = (2 : Int32)) →
            (¬ (x2 = (1 : Int32)) →
              wpX10_stick_b57 F L r x1 (0 : Int32) K) ∧
            ((x2 = (1 : Int32)) →
              wpX10_stick_b57 F L r x1 (1 : Int32) K)) ∧
          ((x2 = (2 : Int32)) →
            wpX0_free 43 F L r x1 (fun u36 =>
              wpX10_stick_b60 u36.1 u36.2.1 u36.2.2 K))) ∧
        (¬ (x2 ≤ (2 : Int32)) →
          wpX10_stick_b24 F L r K))))
def wpX10_stick (F : Nat → Nat → Int32) (L : Nat → Nat → Int64) (r : Nat → Nat → Nat) (x1 : Int32) (x2 : Int32) (K : Int32 → cS → Prop) : Prop := wpX10_stick_b0 F L r x1 x2 K
def wpX10_stuck_b0 (F : Nat → Nat → Int32) (L : Nat → Nat → Int64) (r : Nat → Nat → Nat) (K : Int32 → cS → Prop) : Prop :=
  K (F 43 1) (F, L, r)
def wpX10_stuck (F : Nat → Nat → Int32) (L : Nat → Nat → Int64) (r : Nat → Nat → Nat) (K : Int32 → cS → Prop) : Prop := wpX10_stuck_b0 F L r K
def wpX2_isLength_b17 (k0 : Int32) (K : Int32 → Unit → Prop) : Prop :=
  isB k0 ∧ K k0 ()
def wpX2_isLength_b16 (K : Int32 → Unit → Prop) : Prop :=
  wpX2_isLength_b17 (0 : Int32) K
def wpX2_isLength_b0 (x0 : Int32) (K : Int32 → Unit → Prop) : Prop :=
  ((x0 < (1 : Int32)) →
    wpX2_isLength_b16  K) ∧
  (¬ (x0 < (1 : Int32)) →
    (((500 : Int32) < x0) →
      wpX2_isLength_b16  K) ∧
    (¬ ((500 : Int32) < x0) →
      wpX2_isLength_b17 (1 : Int32) K))
def wpX2_isLength (x0 : Int32) (K : Int32 → Unit → Prop) : Prop := wpX2_isLength_b0  x0 K
def wpX3_copyFrom_b50_body (B50 : (Nat → Nat → Int32) → (Nat → Nat → Int64) → (Nat → Nat → Nat) → Int32 → Prop) (a0 : Nat) (a1 : Nat) (F : Nat → Nat → Int32) (L : Nat → Nat → Int64) (r : Nat → Nat → Nat) (x2 : Int32) (K : cS → Prop) : Prop :=
  (((3 : Int32) ≤ x2) →
    K (F, L, r)) ∧
  (¬ ((3 : Int32) ≤ x2) →
    vp_in x2 3 ∧ vp_in x2 3 ∧ B50 F (ptL L (a0 + 1) (ix x2) (L (a1 + 1) (ix x2))) r (x2 + (1 : Int32)))
def wpX3_copyFrom_b50 (a0 : Nat) (a1 : Nat) (n_ : Nat) (F : Nat → Nat → Int32) (L : Nat → Nat → Int64) (r : Nat → Nat → Nat) (x2 : Int32) (K : cS → Prop) : Prop := match n_ with
  | 0 => False
  | n + 1 => wpX3_copyFrom_b50_body (fun F L r x2 => wpX3_copyFrom_b50 a0 a1 n F L r x2 K) a0 a1 F L r x2 K
def wpX3_copyFrom_b0 (a0 : Nat) (a1 : Nat) (F : Nat → Nat → Int32) (L : Nat → Nat → Int64) (r : Nat → Nat → Nat) (K : cS → Prop) : Prop :=
  ∃ n, wpX3_copyFrom_b50 a0 a1 n (pt (pt (pt (pt F a0 0 (F a1 0)) a0 1 ((pt F a0 0 (F a1 0)) a1 1)) a0 2 ((pt (pt F a0 0 (F a1 0)) a0 1 ((pt F a0 0 (F a1 0)) a1 1)) a1 2)) a0 3 ((pt (pt (pt F a0 0 (F a1 0)) a0 1 ((pt F a0 0 (F a1 0)) a1 1)) a0 2 ((pt (pt F a0 0 (F a1 0)) a0 1 ((pt F a0 0 (F a1 0)) a1 1)) a1 2)) a1 3)) (ptL (ptL L a0 4 (L a1 4)) a0 5 ((ptL L a0 4 (L a1 4)) a1 5)) r (0 : Int32) K
def wpX3_copyFrom (a0 : Nat) (a1 : Nat) (F : Nat → Nat → Int32) (L : Nat → Nat → Int64) (r : Nat → Nat → Nat) (K : cS → Prop) : Prop := wpX3_copyFrom_b0 a0 a1 F L r K
def wpX1_copyFrom_b34_body (B34 : (Nat → Nat → Int32) → (Nat → Nat → Int64) → (Nat → Nat → Nat) → Int32 → Prop) (a0 : Nat) (a1 : Nat) (F : Nat → Nat → Int32) (L : Nat → Nat → Int64) (r : Nat → Nat → Nat) (x2 : Int32) (K : cS → Prop) : Prop :=
  (((4 : Int32) ≤ x2) →
    K (F, L, r)) ∧
  (¬ ((4 : Int32) ≤ x2) →
    vp_in x2 4 ∧ vp_in x2 4 ∧ vp_in x2 4 ∧ vp_in x2 4 ∧ vp_in x2 4 ∧ vp_in x2 4 ∧ B34 (pt F (a0 + 2) (ix x2) (F (a1 + 2) (ix x2))) (ptL (ptL L (a0 + 1) (ix x2) (L (a1 + 1) (ix x2))) (a0 + 3) (ix x2) ((ptL L (a0 + 1) (ix x2) (L (a1 + 1) (ix x2))) (a1 + 3) (ix x2))) r (x2 + (1 : Int32)))
def wpX1_copyFrom_b34 (a0 : Nat) (a1 : Nat) (n_ : Nat) (F : Nat → Nat → Int32) (L : Nat → Nat → Int64) (r : Nat → Nat → Nat) (x2 : Int32) (K : cS → Prop) : Prop := match n_ with
  | 0 => False
  | n + 1 => wpX1_copyFrom_b34_body (fun F L r x2 => wpX1_copyFrom_b34 a0 a1 n F L r x2 K) a0 a1 F L r x2 K
def wpX1_copyFrom_b0 (a0 : Nat) (a1 : Nat) (F : Nat → Nat → Int32) (L : Nat → Nat → Int64) (r : Nat → Nat → Nat) (K : cS → Prop) : Prop :=
  ∃ n, wpX1_copyFrom_b34 a0 a1 n (pt (pt (pt (pt F a0 0 (F a1 0)) a0 1 ((pt F a0 0 (F a1 0)) a1 1)) a0 2 ((pt (pt F a0 0 (F a1 0)) a0 1 ((pt F a0 0 (F a1 0)) a1 1)) a1 2)) a0 3 ((pt (pt (pt F a0 0 (F a1 0)) a0 1 ((pt F a0 0 (F a1 0)) a1 1)) a0 2 ((pt (pt F a0 0 (F a1 0)) a0 1 ((pt F a0 0 (F a1 0)) a1 1)) a1 2)) a1 3)) L r (0 : Int32) K
def wpX1_copyFrom (a0 : Nat) (a1 : Nat) (F : Nat → Nat → Int32) (L : Nat → Nat → Int64) (r : Nat → Nat → Nat) (K : cS → Prop) : Prop := wpX1_copyFrom_b0 a0 a1 F L r K
def wpX0_jamAll_b0 (a0 : Nat) (F : Nat → Nat → Int32) (L : Nat → Nat → Int64) (r : Nat → Nat → Nat) (x1 : Int32) (x2 : Int32) (K : cS → Prop) : Prop :=
  K (pt (pt (pt F a0 1 x1) a0 2 (x2 &&& x1)) a0 0 ((pt (pt F a0 1 x1) a0 2 (x2 &&& x1)) a0 2), L, r)
def wpX0_jamAll (a0 : Nat) (F : Nat → Nat → Int32) (L : Nat → Nat → Int64) (r : Nat → Nat → Nat) (x1 : Int32) (x2 : Int32) (K : cS → Prop) : Prop := wpX0_jamAll_b0 a0 F L r x1 x2 K
def wpX0_jamLike_b0 (a0 : Nat) (a1 : Nat) (F : Nat → Nat → Int32) (L : Nat → Nat → Int64) (r : Nat → Nat → Nat) (K : cS → Prop) : Prop :=
  wpX0_jamAll a0 F L r (F a1 1) (F a1 2) (fun u9 =>
    K (u9.1, u9.2.1, u9.2.2))
def wpX0_jamLike (a0 : Nat) (a1 : Nat) (F : Nat → Nat → Int32) (L : Nat → Nat → Int64) (r : Nat → Nat → Nat) (K : cS → Prop) : Prop := wpX0_jamLike_b0 a0 a1 F L r K
def wpX2_begin_b0 (a1 : Nat) (a2 : Nat) (a3 : Nat) (a4 : Nat) (F : Nat → Nat → Int32) (L : Nat → Nat → Int64) (r : Nat → Nat → Nat) (K : cS → Prop) : Prop :=
  wpX3_copyFrom 90 a2 F L (ptN r 102 4 a1) (fun u10 =>
    wpX1_copyFrom 70 a3 u10.1 u10.2.1 u10.2.2 (fun u18 =>
    wpX0_jamLike 44 a4 u18.1 u18.2.1 u18.2.2 (fun u27 =>
    K (u27.1, u27.2.1, u27.2.2))))
def wpX2_begin (a1 : Nat) (a2 : Nat) (a3 : Nat) (a4 : Nat) (F : Nat → Nat → Int32) (L : Nat → Nat → Int64) (r : Nat → Nat → Nat) (K : cS → Prop) : Prop := wpX2_begin_b0 a1 a2 a3 a4 F L r K
def wpX3_hasWaysOf_b29 (a0 : Nat) (a1 : Nat) (F : Nat → Nat → Int32) (L : Nat → Nat → Int64) (r : Nat → Nat → Nat) (k0 : Int32) (K : Int32 → cS → Prop) : Prop :=
  isB k0 ∧ K k0 (F, L, r)
def wpX3_hasWaysOf_b28 (a0 : Nat) (a1 : Nat) (F : Nat → Nat → Int32) (L : Nat → Nat → Int64) (r : Nat → Nat → Nat) (K : Int32 → cS → Prop) : Prop :=
  wpX3_hasWaysOf_b29 a0 a1 F L r (0 : Int32) K
def wpX3_hasWaysOf_b0 (a0 : Nat) (a1 : Nat) (F : Nat → Nat → Int32) (L : Nat → Nat → Int64) (r : Nat → Nat → Nat) (K : Int32 → cS → Prop) : Prop :=
  (¬ ((lg_cmp (L a0 4) (L a1 4)) = 0) →
    wpX3_hasWaysOf_b28 a0 a1 F L r K) ∧
  (((lg_cmp (L a0 4) (L a1 4)) = 0) →
    (¬ ((lg_cmp (L a0 5) (L a1 5)) = 0) →
      wpX3_hasWaysOf_b28 a0 a1 F L r K) ∧
    (((lg_cmp (L a0 5) (L a1 5)) = 0) →
      wpX3_hasWaysOf_b29 a0 a1 F L r (1 : Int32) K))
def wpX3_hasWaysOf (a0 : Nat) (a1 : Nat) (F : Nat → Nat → Int32) (L : Nat → Nat → Int64) (r : Nat → Nat → Nat) (K : Int32 → cS → Prop) : Prop := wpX3_hasWaysOf_b0 a0 a1 F L r K
def wpX2_firstDifference_b99 (a1 : Nat) (F : Nat → Nat → Int32) (L : Nat → Nat → Int64) (r : Nat → Nat → Nat) (x3 : Int32) (K : Int32 → cS → Prop) : Prop :=
  K x3 (F, L, r)
def wpX2_firstDifference_b35_body (B35 : (Nat → Nat → Int32) → (Nat → Nat → Int64) → (Nat → Nat → Nat) → Int32 → Int32 → Prop) (a1 : Nat) (F : Nat → Nat → Int32) (L : Nat → Nat → Int64) (r : Nat → Nat → Nat) (x2 : Int32) (x3 : Int32) (K : Int32 → cS → Prop) : Prop :=
  ((x2 < x3) →
    K (0 : Int32) (F, L, r)) ∧
  (¬ (x2 < x3) →
    wpX3_obey 94 a1 70 F L r (fun u49 =>
      kd (u49.2.2 102 4) = 4 ∧ wpX0_step 45 (u49.2.2 102 4) 92 70 u49.1 u49.2.1 u49.2.2 (fun u68 =>
      wpX3_standsAs 92 94 u68.1 u68.2.1 u68.2.2 (fun r79 u79 =>
      ((r79 = 0) →
      wpX2_firstDifference_b99 a1 u79.1 u79.2.1 u79.2.2 x3 K) ∧
    (¬ (r79 = 0) →
      wpX3_hasWaysOf 92 94 u79.1 u79.2.1 u79.2.2 (fun r93 u93 =>
        (¬ (r93 = 0) →
        B35 u93.1 u93.2.1 u93.2.2 x2 (x3 + (1 : Int32))) ∧
      ((r93 = 0) →
        wpX2_firstDifference_b99 a1 u93.1 u93.2.1 u93.2.2 x3 K)))))))
def wpX2_firstDifference_b35 (a1 : Nat) (n_ : Nat) (F : Nat → Nat → Int32) (L : Nat → Nat → Int64) (r : Nat → Nat → Nat) (x2 : Int32) (x3 : Int32) (K : Int32 → cS → Prop) : Prop := match n_ with
  | 0 => False
  | n + 1 => wpX2_firstDifference_b35_body (fun F L r x2 x3 => wpX2_firstDifference_b35 a1 n F L r x2 x3 K) a1 F L r x2 x3 K
def wpX2_firstDifference_b0 (a1 : Nat) (F : Nat → Nat → Int32) (L : Nat → Nat → Int64) (r : Nat → Nat → Nat) (x2 : Int32) (K : Int32 → cS → Prop) : Prop :=
  wpX3_copyFrom 94 90 F L r (fun u8 =>
    wpX3_copyFrom 92 90 u8.1 u8.2.1 u8.2.2 (fun u19 =>
    wpX0_jamLike 45 44 u19.1 u19.2.1 u19.2.2 (fun u30 =>
    ∃ n, wpX2_firstDifference_b35 a1 n u30.1 u30.2.1 u30.2.2 x2 (1 : Int32) K)))
def wpX2_firstDifference (a1 : Nat) (F : Nat → Nat → Int32) (L : Nat → Nat → Int64) (r : Nat → Nat → Nat) (x2 : Int32) (K : Int32 → cS → Prop) : Prop := wpX2_firstDifference_b0 a1 F L r x2 K
def wpX10_same_b0 (F : Nat → Nat → Int32) (L : Nat → Nat → Int64) (r : Nat → Nat → Nat) (x1 : Int32) (K : Int32 → cS → Prop) : Prop :=
  wpX2_isLength x1 (fun r1 u1 =>
    (¬ (r1 = 0) →
    kd (r 0 4) = 4 ∧ wpX2_begin (r 0 4) 74 46 43 F L r (fun u29 =>
      kd (u29.2.2 0 3) = 6 ∧ wpX2_firstDifference (u29.2.2 0 3) u29.1 u29.2.1 u29.2.2 x1 (fun r41 u41 =>
      K r41 (u41.1, u41.2.1, u41.2.2)))) ∧
  ((r1 = 0) →
    K (-1 : Int32) (F, L, r)))
def wpX10_same (F : Nat → Nat → Int32) (L : Nat → Nat → Int64) (r : Nat → Nat → Nat) (x1 : Int32) (K : Int32 → cS → Prop) : Prop := wpX10_same_b0 F L r x1 K
def wpX2_stand_b0 (F : Nat → Nat → Int32) (L : Nat → Nat → Int64) (r : Nat → Nat → Nat) (K : Int32 → cS → Prop) : Prop :=
  K (((F 92 0) * (4 : Int32)) + (F 92 1)) (F, L, r)
def wpX2_stand (F : Nat → Nat → Int32) (L : Nat → Nat → Int64) (r : Nat → Nat → Nat) (K : Int32 → cS → Prop) : Prop := wpX2_stand_b0 F L r K
def wpX2_recordTrack_b71 (F : Nat → Nat → Int32) (L : Nat → Nat → Int64) (r : Nat → Nat → Nat) (K : cS → Prop) : Prop :=
  K (F, L, r)
def wpX2_recordTrack_b24_body (B24 : (Nat → Nat → Int32) → (Nat → Nat → Int64) → (Nat → Nat → Nat) → Int32 → Int32 → Prop) (F : Nat → Nat → Int32) (L : Nat → Nat → Int64) (r : Nat → Nat → Nat) (x1 : Int32) (x2 : Int32) (K : cS → Prop) : Prop :=
  ((x1 ≤ x2) →
    wpX2_recordTrack_b71 F L r K) ∧
  (¬ (x1 ≤ x2) →
    (((500 : Int32) ≤ x2) →
      wpX2_recordTrack_b71 F L r K) ∧
    (¬ ((500 : Int32) ≤ x2) →
      kd (r 102 4) = 4 ∧ wpX0_step 45 (r 102 4) 92 70 F L r (fun u52 =>
        wpX2_stand u52.1 u52.2.1 u52.2.2 (fun r61 u61 =>
        vp_in x2 500 ∧ B24 (pt u61.1 103 (ix x2) r61) u61.2.1 u61.2.2 x1 (x2 + (1 : Int32))))))
def wpX2_recordTrack_b24 (n_ : Nat) (F : Nat → Nat → Int32) (L : Nat → Nat → Int64) (r : Nat → Nat → Nat) (x1 : Int32) (x2 : Int32) (K : cS → Prop) : Prop := match n_ with
  | 0 => False
  | n + 1 => wpX2_recordTrack_b24_body (fun F L r x1 x2 => wpX2_recordTrack_b24 n F L r x1 x2 K) F L r x1 x2 K
def wpX2_recordTrack_b0 (F : Nat → Nat → Int32) (L : Nat → Nat → Int64) (r : Nat → Nat → Nat) (x1 : Int32) (K : cS → Prop) : Prop :=
  wpX3_copyFrom 92 90 F L r (fun u8 =>
    wpX0_jamLike 45 44 u8.1 u8.2.1 u8.2.2 (fun u19 =>
    ∃ n, wpX2_recordTrack_b24 n u19.1 u19.2.1 u19.2.2 x1 (0 : Int32) K))
def wpX2_recordTrack (F : Nat → Nat → Int32) (L : Nat → Nat → Int64) (r : Nat → Nat → Nat) (x1 : Int32) (K : cS → Prop) : Prop := wpX2_recordTrack_b0 F L r x1 K
def wpX2_keepsTrack_b78 (F : Nat → Nat → Int32) (L : Nat → Nat → Int64) (r : Nat → Nat → Nat) (K : Int32 → cS → Prop) : Prop :=
  K (1 : Int32) (F, L, r)
def wpX2_keepsTrack_b23_body (B23 : (Nat → Nat → Int32) → (Nat → Nat → Int64) → (Nat → Nat → Nat) → Int32 → Int32 → Prop) (F : Nat → Nat → Int32) (L : Nat → Nat → Int64) (r : Nat → Nat → Nat) (x3 : Int32) (x4 : Int32) (K : Int32 → cS → Prop) : Prop :=
  ((x3 ≤ x4) →
    wpX2_keepsTrack_b78 F L r K) ∧
  (¬ (x3 ≤ x4) →
    (((500 : Int32) ≤ x4) →
      wpX2_keepsTrack_b78 F L r K) ∧
    (¬ ((500 : Int32) ≤ x4) →
      kd (r 102 4) = 4 ∧ wpX0_step 45 (r 102 4) 92 70 F L r (fun u53 =>
        vp_in x4 500 ∧ wpX2_stand u53.1 u53.2.1 u53.2.2 (fun r64 u64 =>
        (((u53.1 103 (ix x4)) = r64) →
        B23 u64.1 u64.2.1 u64.2.2 x3 (x4 + (1 : Int32))) ∧
      (¬ ((u53.1 103 (ix x4)) = r64) →
        K (0 : Int32) (u64.1, u64.2.1, u64.2.2))))))
def wpX2_keepsTrack_b23 (n_ : Nat) (F : Nat → Nat → Int32) (L : Nat → Nat → Int64) (r : Nat → Nat → Nat) (x3 : Int32) (x4 : Int32) (K : Int32 → cS → Prop) : Prop := match n_ with
  | 0 => False
  | n + 1 => wpX2_keepsTrack_b23_body (fun F L r x3 x4 => wpX2_keepsTrack_b23 n F L r x3 x4 K) F L r x3 x4 K
def wpX2_keepsTrack_b0 (F : Nat → Nat → Int32) (L : Nat → Nat → Int64) (r : Nat → Nat → Nat) (x1 : Int32) (x2 : Int32) (x3 : Int32) (K : Int32 → cS → Prop) : Prop :=
  wpX3_copyFrom 92 90 F L r (fun u8 =>
    wpX0_jamAll 45 u8.1 u8.2.1 u8.2.2 x1 x2 (fun u17 =>
    ∃ n, wpX2_keepsTrack_b23 n u17.1 u17.2.1 u17.2.2 x3 (0 : Int32) K))
def wpX2_keepsTrack (F : Nat → Nat → Int32) (L : Nat → Nat → Int64) (r : Nat → Nat → Nat) (x1 : Int32) (x2 : Int32) (x3 : Int32) (K : Int32 → cS → Prop) : Prop := wpX2_keepsTrack_b0 F L r x1 x2 x3 K
def wpX2_findSuspects_b83 (B28 : (Nat → Nat → Int32) → (Nat → Nat → Int64) → (Nat → Nat → Nat) → Int32 → Int32 → Prop) (F : Nat → Nat → Int32) (L : Nat → Nat → Int64) (r : Nat → Nat → Nat) (x1 : Int32) (x2 : Int32) (K : cS → Prop) : Prop :=
  B28 F L r x1 (x2 + (1 : Int32))
def wpX2_findSuspects_b63 (B28 : (Nat → Nat → Int32) → (Nat → Nat → Int64) → (Nat → Nat → Nat) → Int32 → Int32 → Prop) (F : Nat → Nat → Int32) (L : Nat → Nat → Int64) (r : Nat → Nat → Nat) (x1 : Int32) (x2 : Int32) (x3 : Int32) (K : cS → Prop) : Prop :=
  wpX2_keepsTrack F L r x3 x3 x1 (fun r67 u67 =>
    ((r67 = 0) →
    wpX2_findSuspects_b83 B28 u67.1 u67.2.1 u67.2.2 x1 x2 K) ∧
  (¬ (r67 = 0) →
    wpX2_findSuspects_b83 B28 (pt u67.1 102 1 ((u67.1 102 1) ||| x3)) u67.2.1 u67.2.2 x1 x2 K))
def wpX2_findSuspects_b28_body (B28 : (Nat → Nat → Int32) → (Nat → Nat → Int64) → (Nat → Nat → Nat) → Int32 → Int32 → Prop) (F : Nat → Nat → Int32) (L : Nat → Nat → Int64) (r : Nat → Nat → Nat) (x1 : Int32) (x2 : Int32) (K : cS → Prop) : Prop :=
  kd (r 102 4) = 4 ∧ (((F (r 102 4) 0) ≤ x2) →
    K (F, L, r)) ∧
  (¬ ((F (r 102 4) 0) ≤ x2) →
    wpX2_keepsTrack F L r (jshl (1 : Int32) x2) (0 : Int32) x1 (fun r47 u47 =>
      ((r47 = 0) →
      wpX2_findSuspects_b63 B28 u47.1 u47.2.1 u47.2.2 x1 x2 (jshl (1 : Int32) x2) K) ∧
    (¬ (r47 = 0) →
      wpX2_findSuspects_b63 B28 (pt u47.1 102 0 ((u47.1 102 0) ||| (jshl (1 : Int32) x2))) u47.2.1 u47.2.2 x1 x2 (jshl (1 : Int32) x2) K)))
def wpX2_findSuspects_b28 (n_ : Nat) (F : Nat → Nat → Int32) (L : Nat → Nat → Int64) (r : Nat → Nat → Nat) (x1 : Int32) (x2 : Int32) (K : cS → Prop) : Prop := match n_ with
  | 0 => False
  | n + 1 => wpX2_findSuspects_b28_body (fun F L r x1 x2 => wpX2_findSuspects_b28 n F L r x1 x2 K) F L r x1 x2 K
def wpX2_findSuspects_b0 (F : Nat → Nat → Int32) (L : Nat → Nat → Int64) (r : Nat → Nat → Nat) (x1 : Int32) (K : cS → Prop) : Prop :=
  wpX2_recordTrack (pt (pt F 102 0 (0 : Int32)) 102 1 (0 : Int32)) L r x1 (fun u12 =>
    wpX2_keepsTrack u12.1 u12.2.1 u12.2.2 (0 : Int32) (0 : Int32) x1 (fun r19 u19 =>
    ((r19 = 0) →
    ∃ n, wpX2_findSuspects_b28 n u19.1 u19.2.1 u19.2.2 x1 (0 : Int32) K) ∧
  (¬ (r19 = 0) →
    K (u19.1, u19.2.1, u19.2.2))))
def wpX2_findSuspects (F : Nat → Nat → Int32) (L : Nat → Nat → Int64) (r : Nat → Nat → Nat) (x1 : Int32) (K : cS → Prop) : Prop := wpX2_findSuspects_b0 F L r x1 K
def wpX10_suspects_b16 (F : Nat → Nat → Int32) (L : Nat → Nat → Int64) (r : Nat → Nat → Nat) (K : Int32 → cS → Prop) : Prop :=
  K (-1 : Int32) (F, L, r)
def wpX10_suspects_b70 (F : Nat → Nat → Int32) (L : Nat → Nat → Int64) (r : Nat → Nat → Nat) (k0 : Int32) (K : Int32 → cS → Prop) : Prop :=
  K k0 (F, L, r)
def wpX10_suspects_b0 (F : Nat → Nat → Int32) (L : Nat → Nat → Int64) (r : Nat → Nat → Nat) (x1 : Int32) (x2 : Int32) (K : Int32 → cS → Prop) : Prop :=
  wpX2_isLength x1 (fun r1 u1 =>
    ((r1 = 0) →
    wpX10_suspects_b16 F L r K) ∧
  (¬ (r1 = 0) →
    ((x2 < 0) →
      wpX10_suspects_b16 F L r K) ∧
    (¬ (x2 < 0) →
      ((x2 ≤ (1 : Int32)) →
        kd (r 0 4) = 4 ∧ wpX2_begin (r 0 4) 74 46 43 F L r (fun u38 =>
          wpX2_findSuspects u38.1 u38.2.1 u38.2.2 x1 (fun u46 =>
          (¬ (x2 = 0) →
          wpX10_suspects_b70 u46.1 u46.2.1 u46.2.2 (u46.1 102 1) K) ∧
        ((x2 = 0) →
          wpX10_suspects_b70 u46.1 u46.2.1 u46.2.2 (u46.1 102 0) K)))) ∧
      (¬ (x2 ≤ (1 : Int32)) →
        wpX10_suspects_b16 F L r K))))
def wpX10_suspects (F : Nat → Nat → Int32) (L : Nat → Nat → Int64) (r : Nat → Nat → Nat) (x1 : Int32) (x2 : Int32) (K : Int32 → cS → Prop) : Prop := wpX10_suspects_b0 F L r x1 x2 K
def wpJ6_bitCount_0f7a4_b0 (x0 : Int32) (K : Int32 → Unit → Prop) : Prop :=
  ∀ y9 : Int32, y9 = x0 - ((jushr x0 (1 : Int32)) &&& (1431655765 : Int32)) → ∀ y23 : Int32, y23 = (y9 &&& (858993459 : Int32)) + ((jushr y9 (2 : Int32)) &&& (858993459 : Int32)) → ∀ y33 : Int32, y33 = (y23 + (jushr y23 (4 : Int32))) &&& (252645135 : Int32) → ∀ y47 : Int32, y47 = (y33 + (jushr y33 (8 : Int32))) + (jushr (y33 + (jushr y33 (8 : Int32))) (16 : Int32)) → K (y47 &&& (63 : Int32)) ()
def wpJ6_bitCount_0f7a4 (x0 : Int32) (K : Int32 → Unit → Prop) : Prop := wpJ6_bitCount_0f7a4_b0  x0 K
def wpX2_suspectCount_b0 (F : Nat → Nat → Int32) (L : Nat → Nat → Int64) (r : Nat → Nat → Nat) (K : Int32 → cS → Prop) : Prop :=
  wpJ6_bitCount_0f7a4 (F 102 0) (fun r4 u4 =>
    wpJ6_bitCount_0f7a4 (F 102 1) (fun r11 u11 =>
    K (r4 + r11) (F, L, r)))
def wpX2_suspectCount (F : Nat → Nat → Int32) (L : Nat → Nat → Int64) (r : Nat → Nat → Nat) (K : Int32 → cS → Prop) : Prop := wpX2_suspectCount_b0 F L r K
def wpX1_moveWall_b29 (a0 : Nat) (F : Nat → Nat → Int32) (L : Nat → Nat → Int64) (r : Nat → Nat → Nat) (k1 : Int32) (k2 : Int32) (k3 : Int32) (K : cS → Prop) : Prop :=
  wpX1_putWall a0 F L r k1 k2 k3 (fun u29 =>
    K (u29.1, u29.2.1, u29.2.2))
def wpX1_moveWall_b0 (a0 : Nat) (F : Nat → Nat → Int32) (L : Nat → Nat → Int64) (r : Nat → Nat → Nat) (x1 : Int32) (K : cS → Prop) : Prop :=
  wpX1_squareOfWall a0 F L r x1 (fun r2 u2 =>
    wpX1_sideOfWall a0 u2.1 u2.2.1 u2.2.2 x1 (fun r8 u8 =>
    wpX1_isWalled a0 u8.1 u8.2.1 u8.2.2 r2 r8 (fun r18 u18 =>
    (¬ (r18 = 0) →
    wpX1_moveWall_b29 a0 u18.1 u18.2.1 u18.2.2 r2 r8 (0 : Int32) K) ∧
  ((r18 = 0) →
    wpX1_moveWall_b29 a0 u18.1 u18.2.1 u18.2.2 r2 r8 (1 : Int32) K))))
def wpX1_moveWall (a0 : Nat) (F : Nat → Nat → Int32) (L : Nat → Nat → Int64) (r : Nat → Nat → Nat) (x1 : Int32) (K : cS → Prop) : Prop := wpX1_moveWall_b0 a0 F L r x1 K
def wpX2_suspectsLeft_b88 (F : Nat → Nat → Int32) (L : Nat → Nat → Int64) (r : Nat → Nat → Nat) (x2 : Int32) (K : Int32 → cS → Prop) : Prop :=
  K x2 (F, L, r)
def wpX2_suspectsLeft_b82 (B9 : (Nat → Nat → Int32) → (Nat → Nat → Int64) → (Nat → Nat → Nat) → Int32 → Int32 → Int32 → Prop) (F : Nat → Nat → Int32) (L : Nat → Nat → Int64) (r : Nat → Nat → Nat) (x1 : Int32) (x2 : Int32) (x3 : Int32) (K : Int32 → cS → Prop) : Prop :=
  B9 F L r x1 x2 (x3 + (1 : Int32))
def wpX2_suspectsLeft_b57 (B9 : (Nat → Nat → Int32) → (Nat → Nat → Int64) → (Nat → Nat → Nat) → Int32 → Int32 → Int32 → Prop) (F : Nat → Nat → Int32) (L : Nat → Nat → Int64) (r : Nat → Nat → Nat) (x1 : Int32) (x2 : Int32) (x3 : Int32) (x4 : Int32) (K : Int32 → cS → Prop) : Prop :=
  ((((F 102 1) &&& x4) = 0) →
    wpX2_suspectsLeft_b82 B9 F L r x1 x2 x3 K) ∧
  (¬ (((F 102 1) &&& x4) = 0) →
    wpX2_keepsTrack F L r x4 x4 x1 (fun r73 u73 =>
      ((r73 = 0) →
      wpX2_suspectsLeft_b82 B9 u73.1 u73.2.1 u73.2.2 x1 x2 x3 K) ∧
    (¬ (r73 = 0) →
      wpX2_suspectsLeft_b82 B9 u73.1 u73.2.1 u73.2.2 x1 (x2 + (1 : Int32)) x3 K)))
def wpX2_suspectsLeft_b9_body (B9 : (Nat → Nat → Int32) → (Nat → Nat → Int64) → (Nat → Nat → Nat) → Int32 → Int32 → Int32 → Prop) (F : Nat → Nat → Int32) (L : Nat → Nat → Int64) (r : Nat → Nat → Nat) (x1 : Int32) (x2 : Int32) (x3 : Int32) (K : Int32 → cS → Prop) : Prop :=
  kd (r 102 4) = 4 ∧ (((F (r 102 4) 0) ≤ x3) →
    wpX2_suspectsLeft_b88 F L r x2 K) ∧
  (¬ ((F (r 102 4) 0) ≤ x3) →
    (((F 102 3) ≤ x2) →
      wpX2_suspectsLeft_b88 F L r x2 K) ∧
    (¬ ((F 102 3) ≤ x2) →
      ((((F 102 0) &&& (jshl (1 : Int32) x3)) = 0) →
        wpX2_suspectsLeft_b57 B9 F L r x1 x2 x3 (jshl (1 : Int32) x3) K) ∧
      (¬ (((F 102 0) &&& (jshl (1 : Int32) x3)) = 0) →
        wpX2_keepsTrack F L r (jshl (1 : Int32) x3) (0 : Int32) x1 (fun r48 u48 =>
          ((r48 = 0) →
          wpX2_suspectsLeft_b57 B9 u48.1 u48.2.1 u48.2.2 x1 x2 x3 (jshl (1 : Int32) x3) K) ∧
        (¬ (r48 = 0) →
          wpX2_suspectsLeft_b57 B9 u48.1 u48.2.1 u48.2.2 x1 (x2 + (1 : Int32)) x3 (jshl (1 : Int32) x3) K)))))
def wpX2_suspectsLeft_b9 (n_ : Nat) (F : Nat → Nat → Int32) (L : Nat → Nat → Int64) (r : Nat → Nat → Nat) (x1 : Int32) (x2 : Int32) (x3 : Int32) (K : Int32 → cS → Prop) : Prop := match n_ with
  | 0 => False
  | n + 1 => wpX2_suspectsLeft_b9_body (fun F L r x1 x2 x3 => wpX2_suspectsLeft_b9 n F L r x1 x2 x3 K) F L r x1 x2 x3 K
def wpX2_suspectsLeft_b0 (F : Nat → Nat → Int32) (L : Nat → Nat → Int64) (r : Nat → Nat → Nat) (x1 : Int32) (K : Int32 → cS → Prop) : Prop :=
  wpX2_recordTrack F L r x1 (fun u2 =>
    ∃ n, wpX2_suspectsLeft_b9 n u2.1 u2.2.1 u2.2.2 x1 (0 : Int32) (0 : Int32) K)
def wpX2_suspectsLeft (F : Nat → Nat → Int32) (L : Nat → Nat → Int64) (r : Nat → Nat → Nat) (x1 : Int32) (K : Int32 → cS → Prop) : Prop := wpX2_suspectsLeft_b0 F L r x1 K
def wpX2_findBestWall_b68 (B17 : (Nat → Nat → Int32) → (Nat → Nat → Int64) → (Nat → Nat → Nat) → Int32 → Int32 → Prop) (F : Nat → Nat → Int32) (L : Nat → Nat → Int64) (r : Nat → Nat → Nat) (x1 : Int32) (x2 : Int32) (K : cS → Prop) : Prop :=
  B17 F L r x1 (x2 + (1 : Int32))
def wpX2_findBestWall_b17_body (B17 : (Nat → Nat → Int32) → (Nat → Nat → Int64) → (Nat → Nat → Nat) → Int32 → Int32 → Prop) (F : Nat → Nat → Int32) (L : Nat → Nat → Int64) (r : Nat → Nat → Nat) (x1 : Int32) (x2 : Int32) (K : cS → Prop) : Prop :=
  wpX1_wallNumbers 70 F L r (fun r22 u22 =>
    ((r22 ≤ x2) →
    K (u22.1, u22.2.1, u22.2.2)) ∧
  (¬ (r22 ≤ x2) →
    wpX1_moveWall 70 u22.1 u22.2.1 u22.2.2 x2 (fun u33 =>
      wpX2_suspectsLeft u33.1 u33.2.1 u33.2.2 x1 (fun r38 u38 =>
      wpX1_moveWall 70 u38.1 u38.2.1 u38.2.2 x2 (fun u47 =>
      (((u47.1 102 3) ≤ r38) →
      wpX2_findBestWall_b68 B17 u47.1 u47.2.1 u47.2.2 x1 x2 K) ∧
    (¬ ((u47.1 102 3) ≤ r38) →
      wpX2_findBestWall_b68 B17 (pt (pt u47.1 102 3 r38) 102 2 x2) u47.2.1 u47.2.2 x1 x2 K))))))
def wpX2_findBestWall_b17 (n_ : Nat) (F : Nat → Nat → Int32) (L : Nat → Nat → Int64) (r : Nat → Nat → Nat) (x1 : Int32) (x2 : Int32) (K : cS → Prop) : Prop := match n_ with
  | 0 => False
  | n + 1 => wpX2_findBestWall_b17_body (fun F L r x1 x2 => wpX2_findBestWall_b17 n F L r x1 x2 K) F L r x1 x2 K
def wpX2_findBestWall_b0 (F : Nat → Nat → Int32) (L : Nat → Nat → Int64) (r : Nat → Nat → Nat) (x1 : Int32) (K : cS → Prop) : Prop :=
  wpX2_suspectCount (pt F 102 2 (-1 : Int32)) L r (fun r7 u7 =>
    ∃ n, wpX2_findBestWall_b17 n (pt u7.1 102 3 (r7 + (1 : Int32))) u7.2.1 u7.2.2 x1 (0 : Int32) K)
def wpX2_findBestWall (F : Nat → Nat → Int32) (L : Nat → Nat → Int64) (r : Nat → Nat → Nat) (x1 : Int32) (K : cS → Prop) : Prop := wpX2_findBestWall_b0 F L r x1 K
def wpX10_trial_b16 (F : Nat → Nat → Int32) (L : Nat → Nat → Int64) (r : Nat → Nat → Nat) (K : Int32 → cS → Prop) : Prop :=
  K (-1 : Int32) (F, L, r)
def wpX10_trial_b91 (F : Nat → Nat → Int32) (L : Nat → Nat → Int64) (r : Nat → Nat → Nat) (k0 : Int32) (K : Int32 → cS → Prop) : Prop :=
  K k0 (F, L, r)
def wpX10_trial_b0 (F : Nat → Nat → Int32) (L : Nat → Nat → Int64) (r : Nat → Nat → Nat) (x1 : Int32) (x2 : Int32) (K : Int32 → cS → Prop) : Prop :=
  wpX2_isLength x1 (fun r1 u1 =>
    ((r1 = 0) →
    wpX10_trial_b16 F L r K) ∧
  (¬ (r1 = 0) →
    ((x2 < 0) →
      wpX10_trial_b16 F L r K) ∧
    (¬ (x2 < 0) →
      ((x2 ≤ (1 : Int32)) →
        kd (r 0 4) = 4 ∧ wpX2_begin (r 0 4) 74 46 43 F L r (fun u38 =>
          wpX2_findSuspects u38.1 u38.2.1 u38.2.2 x1 (fun u46 =>
          wpX2_suspectCount u46.1 u46.2.1 u46.2.2 (fun r53 u53 =>
          (((2 : Int32) ≤ r53) →
          wpX2_findBestWall u53.1 u53.2.1 u53.2.2 x1 (fun u67 =>
            (¬ (x2 = 0) →
            wpX10_trial_b91 u67.1 u67.2.1 u67.2.2 (u67.1 102 3) K) ∧
          ((x2 = 0) →
            wpX10_trial_b91 u67.1 u67.2.1 u67.2.2 (u67.1 102 2) K))) ∧
        (¬ ((2 : Int32) ≤ r53) →
          K (-1 : Int32) (u53.1, u53.2.1, u53.2.2)))))) ∧
      (¬ (x2 ≤ (1 : Int32)) →
        wpX10_trial_b16 F L r K))))
def wpX10_trial (F : Nat → Nat → Int32) (L : Nat → Nat → Int64) (r : Nat → Nat → Nat) (x1 : Int32) (x2 : Int32) (K : Int32 → cS → Prop) : Prop := wpX10_trial_b0 F L r x1 x2 K
def wpX10_keep_b9 (F : Nat → Nat → Int32) (L : Nat → Nat → Int64) (r : Nat → Nat → Nat) (K : Int32 → cS → Prop) : Prop :=
  K (0 : Int32) (F, L, r)
def wpX10_keep_b0 (F : Nat → Nat → Int32) (L : Nat → Nat → Int64) (r : Nat → Nat → Nat) (x1 : Int32) (K : Int32 → cS → Prop) : Prop :=
  ((x1 < 0) →
    wpX10_keep_b9 F L r K) ∧
  (¬ (x1 < 0) →
    ((x1 < (4 : Int32)) →
      vp_in x1 4 ∧ wpX1_copyFrom (50 + 4 * ix x1) 46 F L r (fun u21 =>
        vp_in x1 4 ∧ wpX3_copyFrom (76 + 2 * ix x1) 74 u21.1 u21.2.1 u21.2.2 (fun u34 =>
        vp_in x1 4 ∧ K (1 : Int32) (pt (pt u34.1 3 (ix x1) (u34.1 43 0)) 0 11 (((pt u34.1 3 (ix x1) (u34.1 43 0)) 0 11) ||| (jshl (1 : Int32) x1)), u34.2.1, u34.2.2)))) ∧
    (¬ (x1 < (4 : Int32)) →
      wpX10_keep_b9 F L r K))
def wpX10_keep (F : Nat → Nat → Int32) (L : Nat → Nat → Int64) (r : Nat → Nat → Nat) (x1 : Int32) (K : Int32 → cS → Prop) : Prop := wpX10_keep_b0 F L r x1 K
def wpX10_restore_b20 (F : Nat → Nat → Int32) (L : Nat → Nat → Int64) (r : Nat → Nat → Nat) (K : Int32 → cS → Prop) : Prop :=
  K (0 : Int32) (F, L, r)
def wpX10_restore_b0 (F : Nat → Nat → Int32) (L : Nat → Nat → Int64) (r : Nat → Nat → Nat) (x1 : Int32) (K : Int32 → cS → Prop) : Prop :=
  ((x1 < 0) →
    wpX10_restore_b20 F L r K) ∧
  (¬ (x1 < 0) →
    (((4 : Int32) ≤ x1) →
      wpX10_restore_b20 F L r K) ∧
    (¬ ((4 : Int32) ≤ x1) →
      (¬ (((jshr (F 0 11) x1) &&& (1 : Int32)) = 0) →
        vp_in x1 4 ∧ wpX1_copyFrom 46 (50 + 4 * ix x1) F L r (fun u32 =>
          vp_in x1 4 ∧ wpX3_copyFrom 74 (76 + 2 * ix x1) u32.1 u32.2.1 u32.2.2 (fun u45 =>
          vp_in x1 4 ∧ wpX0_settle 43 u45.1 u45.2.1 u45.2.2 (u45.1 3 (ix x1)) (fun u58 =>
          K (1 : Int32) (u58.1, u58.2.1, u58.2.2))))) ∧
      ((((jshr (F 0 11) x1) &&& (1 : Int32)) = 0) →
        wpX10_restore_b20 F L r K)))
def wpX10_restore (F : Nat → Nat → Int32) (L : Nat → Nat → Int64) (r : Nat → Nat → Nat) (x1 : Int32) (K : Int32 → cS → Prop) : Prop := wpX10_restore_b0 F L r x1 K
def wpX1_standingWalls_b0 (a0 : Nat) (F : Nat → Nat → Int32) (L : Nat → Nat → Int64) (r : Nat → Nat → Nat) (K : Int32 → cS → Prop) : Prop :=
  vp_in (1 : Int32) 4 ∧ vp_in (1 : Int32) 4 ∧ wpJ13_bitCount_95d88 ((L (a0 + 1) (ix (1 : Int32))) &&& ((L (a0 + 3) (ix (1 : Int32))) ^^^ (-1 : Int64))) (fun r17 u17 =>
    vp_in (2 : Int32) 4 ∧ vp_in (2 : Int32) 4 ∧ wpJ13_bitCount_95d88 ((L (a0 + 1) (ix (2 : Int32))) &&& ((L (a0 + 3) (ix (2 : Int32))) ^^^ (-1 : Int64))) (fun r37 u37 =>
    K (r17 + r37) (F, L, r)))
def wpX1_standingWalls (a0 : Nat) (F : Nat → Nat → Int32) (L : Nat → Nat → Int64) (r : Nat → Nat → Nat) (K : Int32 → cS → Prop) : Prop := wpX1_standingWalls_b0 a0 F L r K
def wpX10_count_b0 (F : Nat → Nat → Int32) (L : Nat → Nat → Int64) (r : Nat → Nat → Nat) (x1 : Int32) (K : Int32 → cS → Prop) : Prop :=
  (x1 = (0 : Int32) →
    K (F 46 2) (F, L, r)) ∧
  (x1 = (1 : Int32) →
    kd (r 0 3) = 6 ∧ K (F (r 0 3) 0) (F, L, r)) ∧
  (x1 = (2 : Int32) →
    kd (r 0 4) = 4 ∧ K (F (r 0 4) 0) (F, L, r)) ∧
  (x1 = (3 : Int32) →
    kd (r 0 4) = 4 ∧ K (F (r 0 4) 1) (F, L, r)) ∧
  (x1 = (4 : Int32) →
    wpX1_standingWalls 46 F L r (fun r80 u80 =>
        K r80 (u80.1, u80.2.1, u80.2.2))) ∧
  (x1 = (5 : Int32) →
    K (F 46 3) (F, L, r)) ∧
  (x1 = (6 : Int32) →
    wpJ6_bitCount_0f7a4 (F 0 11) (fun r96 u96 =>
        K r96 (F, L, r))) ∧
  ((x1).toInt < 0 ∨ 6 < (x1).toInt →
    K (-1 : Int32) (F, L, r))
def wpX10_count (F : Nat → Nat → Int32) (L : Nat → Nat → Int64) (r : Nat → Nat → Nat) (x1 : Int32) (K : Int32 → cS → Prop) : Prop := wpX10_count_b0 F L r x1 K
