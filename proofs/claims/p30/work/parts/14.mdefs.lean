/-! What the walks ask, as plain statements. -/
def wpX11_feed_b76 (B23 : (Nat → Int32) → (Nat → Nat → Int32) → Int32 → Int32 → Int32 → Int32 → Int32 → Int32 → Prop) (f : Nat → Int32) (g : Nat → Nat → Int32) (k0 : Int32) (x1 : Int32) (x2 : Int32) (x3 : Int32) (x4 : Int32) (x5 : Int32) (x6 : Int32) (K : Int32 → ((Nat → Int32) × (Nat → Nat → Int32)) → Prop) : Prop :=
  vp_in ((f 1) + x6) 500 ∧ B23 f (pt g 0 (ix ((f 1) + x6)) ((jshr k0 ((24 : Int32) - ((8 : Int32) * (jrem x6 (4 : Int32))))) &&& (255 : Int32))) x1 x2 x3 x4 x5 (x6 + (1 : Int32))
def wpX11_feed_b23_body (B23 : (Nat → Int32) → (Nat → Nat → Int32) → Int32 → Int32 → Int32 → Int32 → Int32 → Int32 → Prop) (f : Nat → Int32) (g : Nat → Nat → Int32) (x1 : Int32) (x2 : Int32) (x3 : Int32) (x4 : Int32) (x5 : Int32) (x6 : Int32) (K : Int32 → ((Nat → Int32) × (Nat → Nat → Int32)) → Prop) : Prop :=
  (((20 : Int32) ≤ x6) →
    K ((f 1) + (20 : Int32)) (upd f 1 ((f 1) + (20 : Int32)), g)) ∧
  (¬ ((20 : Int32) ≤ x6) →
    (((4 : Int32) ≤ x6) →
      (((8 : Int32) ≤ x6) →
        (((12 : Int32) ≤ x6) →
          (((16 : Int32) ≤ x6) →
            wpX11_feed_b76 B23 f g x5 x1 x2 x3 x4 x5 x6 K) ∧
          (¬ ((16 : Int32) ≤ x6) →
            wpX11_feed_b76 B23 f g x4 x1 x2 x3 x4 x5 x6 K)) ∧
        (¬ ((12 : Int32) ≤ x6) →
          wpX11_feed_b76 B23 f g x3 x1 x2 x3 x4 x5 x6 K)) ∧
      (¬ ((8 : Int32) ≤ x6) →
        wpX11_feed_b76 B23 f g x2 x1 x2 x3 x4 x5 x6 K)) ∧
    (¬ ((4 : Int32) ≤ x6) →
      wpX11_feed_b76 B23 f g x1 x1 x2 x3 x4 x5 x6 K))
def wpX11_feed_b23 (n_ : Nat) (f : Nat → Int32) (g : Nat → Nat → Int32) (x1 : Int32) (x2 : Int32) (x3 : Int32) (x4 : Int32) (x5 : Int32) (x6 : Int32) (K : Int32 → ((Nat → Int32) × (Nat → Nat → Int32)) → Prop) : Prop := match n_ with
  | 0 => False
  | n + 1 => wpX11_feed_b23_body (fun f g x1 x2 x3 x4 x5 x6 => wpX11_feed_b23 n f g x1 x2 x3 x4 x5 x6 K) f g x1 x2 x3 x4 x5 x6 K
def wpX11_feed_b0 (f : Nat → Int32) (g : Nat → Nat → Int32) (x1 : Int32) (x2 : Int32) (x3 : Int32) (x4 : Int32) (x5 : Int32) (K : Int32 → ((Nat → Int32) × (Nat → Nat → Int32)) → Prop) : Prop :=
  ((((f 1) + (20 : Int32)) ≤ (500 : Int32)) →
    ∃ n, wpX11_feed_b23 n (upd f 2 (0 : Int32)) g x1 x2 x3 x4 x5 (0 : Int32) K) ∧
  (¬ (((f 1) + (20 : Int32)) ≤ (500 : Int32)) →
    K (-1 : Int32) (upd f 2 (0 : Int32), g))
def wpX11_feed (f : Nat → Int32) (g : Nat → Nat → Int32) (x1 : Int32) (x2 : Int32) (x3 : Int32) (x4 : Int32) (x5 : Int32) (K : Int32 → ((Nat → Int32) × (Nat → Nat → Int32)) → Prop) : Prop := wpX11_feed_b0 f g x1 x2 x3 x4 x5 K
def wpX11_isIn_b15 (k0 : Int32) (K : Int32 → Unit → Prop) : Prop :=
  isB k0 ∧ K k0 ()
def wpX11_isIn_b14 (K : Int32 → Unit → Prop) : Prop :=
  wpX11_isIn_b15 (0 : Int32) K
def wpX11_isIn_b0 (x0 : Int32) (x1 : Int32) (x2 : Int32) (K : Int32 → Unit → Prop) : Prop :=
  ((x0 < x1) →
    wpX11_isIn_b14  K) ∧
  (¬ (x0 < x1) →
    ((x2 < x0) →
      wpX11_isIn_b14  K) ∧
    (¬ (x2 < x0) →
      wpX11_isIn_b15 (1 : Int32) K))
def wpX11_isIn (x0 : Int32) (x1 : Int32) (x2 : Int32) (K : Int32 → Unit → Prop) : Prop := wpX11_isIn_b0  x0 x1 x2 K
def wpX11_isOf_b14 (k0 : Int32) (K : Int32 → Unit → Prop) : Prop :=
  isB k0 ∧ K k0 ()
def wpX11_isOf_b0 (x0 : Int32) (x1 : Int32) (K : Int32 → Unit → Prop) : Prop :=
  (¬ (((jshr x0 x1) &&& (1 : Int32)) = (1 : Int32)) →
    wpX11_isOf_b14 (0 : Int32) K) ∧
  ((((jshr x0 x1) &&& (1 : Int32)) = (1 : Int32)) →
    wpX11_isOf_b14 (1 : Int32) K)
def wpX11_isOf (x0 : Int32) (x1 : Int32) (K : Int32 → Unit → Prop) : Prop := wpX11_isOf_b0  x0 x1 K
def wpX11_wrong_b0 (f : Nat → Int32) (g : Nat → Nat → Int32) (x1 : Int32) (K : Int32 → ((Nat → Int32) × (Nat → Nat → Int32)) → Prop) : Prop :=
  K (0 : Int32) (upd (upd f 4 x1) 5 (f 10), g)
def wpX11_wrong (f : Nat → Int32) (g : Nat → Nat → Int32) (x1 : Int32) (K : Int32 → ((Nat → Int32) × (Nat → Nat → Int32)) → Prop) : Prop := wpX11_wrong_b0 f g x1 K
def wpX11_wordAt_b104 (B5 : (Nat → Int32) → (Nat → Nat → Int32) → Int32 → Int32 → Int32 → Int32 → Prop) (f : Nat → Int32) (g : Nat → Nat → Int32) (x1 : Int32) (x2 : Int32) (x3 : Int32) (x4 : Int32) (x5 : Int32) (x6 : Int32) (K : Int32 → ((Nat → Int32) × (Nat → Nat → Int32)) → Prop) : Prop :=
  ((x6 = 0) →
    B5 f g x1 x2 (x3 + (1 : Int32)) (x4 + (x5 + (1 : Int32)))) ∧
  (¬ (x6 = 0) →
    K x3 (f, g))
def wpX11_wordAt_b96 (B5 : (Nat → Int32) → (Nat → Nat → Int32) → Int32 → Int32 → Int32 → Int32 → Prop) (B57 : (Nat → Int32) → (Nat → Nat → Int32) → Int32 → Int32 → Int32 → Int32 → Int32 → Int32 → Int32 → Prop) (f : Nat → Int32) (g : Nat → Nat → Int32) (k0 : Int32) (x1 : Int32) (x2 : Int32) (x3 : Int32) (x4 : Int32) (x5 : Int32) (x7 : Int32) (K : Int32 → ((Nat → Int32) × (Nat → Nat → Int32)) → Prop) : Prop :=
  B57 f g x1 x2 x3 x4 x5 k0 (x7 + (1 : Int32))
def wpX11_wordAt_b57_body (B5 : (Nat → Int32) → (Nat → Nat → Int32) → Int32 → Int32 → Int32 → Int32 → Prop) (B57 : (Nat → Int32) → (Nat → Nat → Int32) → Int32 → Int32 → Int32 → Int32 → Int32 → Int32 → Int32 → Prop) (f : Nat → Int32) (g : Nat → Nat → Int32) (x1 : Int32) (x2 : Int32) (x3 : Int32) (x4 : Int32) (x5 : Int32) (x6 : Int32) (x7 : Int32) (K : Int32 → ((Nat → Int32) × (Nat → Nat → Int32)) → Prop) : Prop :=
  ((x5 ≤ x7) →
    wpX11_wordAt_b104 B5 f g x1 x2 x3 x4 x5 x6 K) ∧
  (¬ (x5 ≤ x7) →
    ((x6 = 0) →
      wpX11_wordAt_b104 B5 f g x1 x2 x3 x4 x5 x6 K) ∧
    (¬ (x6 = 0) →
      vp_in (x4 + x7) 112 ∧ vp_in (x1 + x7) 500 ∧ (¬ ((g 3 (ix (x4 + x7))) = (g 0 (ix (x1 + x7)))) →
        wpX11_wordAt_b96 B5 B57 f g (0 : Int32) x1 x2 x3 x4 x5 x7 K) ∧
      (((g 3 (ix (x4 + x7))) = (g 0 (ix (x1 + x7)))) →
        wpX11_wordAt_b96 B5 B57 f g (1 : Int32) x1 x2 x3 x4 x5 x7 K)))
def wpX11_wordAt_b57 (B5 : (Nat → Int32) → (Nat → Nat → Int32) → Int32 → Int32 → Int32 → Int32 → Prop) (n_ : Nat) (f : Nat → Int32) (g : Nat → Nat → Int32) (x1 : Int32) (x2 : Int32) (x3 : Int32) (x4 : Int32) (x5 : Int32) (x6 : Int32) (x7 : Int32) (K : Int32 → ((Nat → Int32) × (Nat → Nat → Int32)) → Prop) : Prop := match n_ with
  | 0 => False
  | n + 1 => wpX11_wordAt_b57_body B5 (fun f g x1 x2 x3 x4 x5 x6 x7 => wpX11_wordAt_b57 B5 n f g x1 x2 x3 x4 x5 x6 x7 K) f g x1 x2 x3 x4 x5 x6 x7 K
def wpX11_wordAt_b52 (B5 : (Nat → Int32) → (Nat → Nat → Int32) → Int32 → Int32 → Int32 → Int32 → Prop) (f : Nat → Int32) (g : Nat → Nat → Int32) (k0 : Int32) (x1 : Int32) (x2 : Int32) (x3 : Int32) (x4 : Int32) (x5 : Int32) (K : Int32 → ((Nat → Int32) × (Nat → Nat → Int32)) → Prop) : Prop :=
  ∃ n, wpX11_wordAt_b57 B5 n f g x1 x2 x3 x4 x5 k0 (0 : Int32) K
def wpX11_wordAt_b18_body (B5 : (Nat → Int32) → (Nat → Nat → Int32) → Int32 → Int32 → Int32 → Int32 → Prop) (B18 : (Nat → Int32) → (Nat → Nat → Int32) → Int32 → Int32 → Int32 → Int32 → Int32 → Prop) (f : Nat → Int32) (g : Nat → Nat → Int32) (x1 : Int32) (x2 : Int32) (x3 : Int32) (x4 : Int32) (x5 : Int32) (K : Int32 → ((Nat → Int32) × (Nat → Nat → Int32)) → Prop) : Prop :=
  vp_in (x4 + x5) 112 ∧ (((g 3 (ix (x4 + x5))) = (32 : Int32)) →
    (¬ (x5 = (x2 - x1)) →
      wpX11_wordAt_b52 B5 f g (0 : Int32) x1 x2 x3 x4 x5 K) ∧
    ((x5 = (x2 - x1)) →
      wpX11_wordAt_b52 B5 f g (1 : Int32) x1 x2 x3 x4 x5 K)) ∧
  (¬ ((g 3 (ix (x4 + x5))) = (32 : Int32)) →
    B18 f g x1 x2 x3 x4 (x5 + (1 : Int32)))
def wpX11_wordAt_b18 (B5 : (Nat → Int32) → (Nat → Nat → Int32) → Int32 → Int32 → Int32 → Int32 → Prop) (n_ : Nat) (f : Nat → Int32) (g : Nat → Nat → Int32) (x1 : Int32) (x2 : Int32) (x3 : Int32) (x4 : Int32) (x5 : Int32) (K : Int32 → ((Nat → Int32) × (Nat → Nat → Int32)) → Prop) : Prop := match n_ with
  | 0 => False
  | n + 1 => wpX11_wordAt_b18_body B5 (fun f g x1 x2 x3 x4 x5 => wpX11_wordAt_b18 B5 n f g x1 x2 x3 x4 x5 K) f g x1 x2 x3 x4 x5 K
def wpX11_wordAt_b5_body (B5 : (Nat → Int32) → (Nat → Nat → Int32) → Int32 → Int32 → Int32 → Int32 → Prop) (f : Nat → Int32) (g : Nat → Nat → Int32) (x1 : Int32) (x2 : Int32) (x3 : Int32) (x4 : Int32) (K : Int32 → ((Nat → Int32) × (Nat → Nat → Int32)) → Prop) : Prop :=
  (((112 : Int32) ≤ x4) →
    K (-1 : Int32) (f, g)) ∧
  (¬ ((112 : Int32) ≤ x4) →
    ∃ n, wpX11_wordAt_b18 B5 n f g x1 x2 x3 x4 (0 : Int32) K)
def wpX11_wordAt_b5 (n_ : Nat) (f : Nat → Int32) (g : Nat → Nat → Int32) (x1 : Int32) (x2 : Int32) (x3 : Int32) (x4 : Int32) (K : Int32 → ((Nat → Int32) × (Nat → Nat → Int32)) → Prop) : Prop := match n_ with
  | 0 => False
  | n + 1 => wpX11_wordAt_b5_body (fun f g x1 x2 x3 x4 => wpX11_wordAt_b5 n f g x1 x2 x3 x4 K) f g x1 x2 x3 x4 K
def wpX11_wordAt_b0 (f : Nat → Int32) (g : Nat → Nat → Int32) (x1 : Int32) (x2 : Int32) (K : Int32 → ((Nat → Int32) × (Nat → Nat → Int32)) → Prop) : Prop :=
  ∃ n, wpX11_wordAt_b5 n f g x1 x2 (0 : Int32) (0 : Int32) K
def wpX11_wordAt (f : Nat → Int32) (g : Nat → Nat → Int32) (x1 : Int32) (x2 : Int32) (K : Int32 → ((Nat → Int32) × (Nat → Nat → Int32)) → Prop) : Prop := wpX11_wordAt_b0 f g x1 x2 K
def wpX11_isSmall_b35 (f : Nat → Int32) (g : Nat → Nat → Int32) (k0 : Int32) (K : Int32 → ((Nat → Int32) × (Nat → Nat → Int32)) → Prop) : Prop :=
  isB k0 ∧ K k0 (f, g)
def wpX11_isSmall_b34 (f : Nat → Int32) (g : Nat → Nat → Int32) (K : Int32 → ((Nat → Int32) × (Nat → Nat → Int32)) → Prop) : Prop :=
  wpX11_isSmall_b35 f g (0 : Int32) K
def wpX11_isSmall_b0 (f : Nat → Int32) (g : Nat → Nat → Int32) (x1 : Int32) (K : Int32 → ((Nat → Int32) × (Nat → Nat → Int32)) → Prop) : Prop :=
  (((f 6) ≤ x1) →
    wpX11_isSmall_b34 f g K) ∧
  (¬ ((f 6) ≤ x1) →
    vp_in x1 500 ∧ (((g 0 (ix x1)) < (97 : Int32)) →
      wpX11_isSmall_b34 f g K) ∧
    (¬ ((g 0 (ix x1)) < (97 : Int32)) →
      vp_in x1 500 ∧ (((122 : Int32) < (g 0 (ix x1))) →
        wpX11_isSmall_b34 f g K) ∧
      (¬ ((122 : Int32) < (g 0 (ix x1))) →
        wpX11_isSmall_b35 f g (1 : Int32) K)))
def wpX11_isSmall (f : Nat → Int32) (g : Nat → Nat → Int32) (x1 : Int32) (K : Int32 → ((Nat → Int32) × (Nat → Nat → Int32)) → Prop) : Prop := wpX11_isSmall_b0 f g x1 K
def wpX11_isDigit_b35 (f : Nat → Int32) (g : Nat → Nat → Int32) (k0 : Int32) (K : Int32 → ((Nat → Int32) × (Nat → Nat → Int32)) → Prop) : Prop :=
  isB k0 ∧ K k0 (f, g)
def wpX11_isDigit_b34 (f : Nat → Int32) (g : Nat → Nat → Int32) (K : Int32 → ((Nat → Int32) × (Nat → Nat → Int32)) → Prop) : Prop :=
  wpX11_isDigit_b35 f g (0 : Int32) K
def wpX11_isDigit_b0 (f : Nat → Int32) (g : Nat → Nat → Int32) (x1 : Int32) (K : Int32 → ((Nat → Int32) × (Nat → Nat → Int32)) → Prop) : Prop :=
  (((f 6) ≤ x1) →
    wpX11_isDigit_b34 f g K) ∧
  (¬ ((f 6) ≤ x1) →
    vp_in x1 500 ∧ (((g 0 (ix x1)) < (48 : Int32)) →
      wpX11_isDigit_b34 f g K) ∧
    (¬ ((g 0 (ix x1)) < (48 : Int32)) →
      vp_in x1 500 ∧ (((57 : Int32) < (g 0 (ix x1))) →
        wpX11_isDigit_b34 f g K) ∧
      (¬ ((57 : Int32) < (g 0 (ix x1))) →
        wpX11_isDigit_b35 f g (1 : Int32) K)))
def wpX11_isDigit (f : Nat → Int32) (g : Nat → Nat → Int32) (x1 : Int32) (K : Int32 → ((Nat → Int32) × (Nat → Nat → Int32)) → Prop) : Prop := wpX11_isDigit_b0 f g x1 K
def wpX11_isOfNet_b50 (k0 : Int32) (K : Int32 → Unit → Prop) : Prop :=
  isB k0 ∧ K k0 ()
def wpX11_isOfNet_b45 (K : Int32 → Unit → Prop) : Prop :=
  wpX11_isOfNet_b50 (1 : Int32) K
def wpX11_isOfNet_b0 (x0 : Int32) (K : Int32 → Unit → Prop) : Prop :=
  ((x0 = (2 : Int32)) →
    wpX11_isOfNet_b45  K) ∧
  (¬ (x0 = (2 : Int32)) →
    ((x0 = (3 : Int32)) →
      wpX11_isOfNet_b45  K) ∧
    (¬ (x0 = (3 : Int32)) →
      ((x0 = (4 : Int32)) →
        wpX11_isOfNet_b45  K) ∧
      (¬ (x0 = (4 : Int32)) →
        ((x0 = (9 : Int32)) →
          wpX11_isOfNet_b45  K) ∧
        (¬ (x0 = (9 : Int32)) →
          ((x0 = (10 : Int32)) →
            wpX11_isOfNet_b45  K) ∧
          (¬ (x0 = (10 : Int32)) →
            ((x0 = (13 : Int32)) →
              wpX11_isOfNet_b45  K) ∧
            (¬ (x0 = (13 : Int32)) →
              ((x0 = (14 : Int32)) →
                wpX11_isOfNet_b45  K) ∧
              (¬ (x0 = (14 : Int32)) →
                ((x0 < (20 : Int32)) →
                  wpX11_isOfNet_b50 (0 : Int32) K) ∧
                (¬ (x0 < (20 : Int32)) →
                  wpX11_isOfNet_b45  K))))))))
def wpX11_isOfNet (x0 : Int32) (K : Int32 → Unit → Prop) : Prop := wpX11_isOfNet_b0  x0 K
def wpX11_packed_b37 (B5 : (Nat → Int32) → (Nat → Nat → Int32) → Int32 → Int32 → Int32 → Int32 → Prop) (f : Nat → Int32) (g : Nat → Nat → Int32) (k0 : Int32) (k1 : Int32) (x1 : Int32) (x2 : Int32) (x4 : Int32) (K : Int32 → ((Nat → Int32) × (Nat → Nat → Int32)) → Prop) : Prop :=
  B5 f g x1 x2 (k0 ||| k1) (x4 + (1 : Int32))
def wpX11_packed_b5_body (B5 : (Nat → Int32) → (Nat → Nat → Int32) → Int32 → Int32 → Int32 → Int32 → Prop) (f : Nat → Int32) (g : Nat → Nat → Int32) (x1 : Int32) (x2 : Int32) (x3 : Int32) (x4 : Int32) (K : Int32 → ((Nat → Int32) × (Nat → Nat → Int32)) → Prop) : Prop :=
  (((x1 + (6 : Int32)) ≤ x4) →
    K x3 (f, g)) ∧
  (¬ ((x1 + (6 : Int32)) ≤ x4) →
    ((x2 ≤ x4) →
      wpX11_packed_b37 B5 f g (jshl x3 (5 : Int32)) (0 : Int32) x1 x2 x4 K) ∧
    (¬ (x2 ≤ x4) →
      vp_in x4 500 ∧ wpX11_packed_b37 B5 f g (jshl x3 (5 : Int32)) ((g 0 (ix x4)) - (96 : Int32)) x1 x2 x4 K))
def wpX11_packed_b5 (n_ : Nat) (f : Nat → Int32) (g : Nat → Nat → Int32) (x1 : Int32) (x2 : Int32) (x3 : Int32) (x4 : Int32) (K : Int32 → ((Nat → Int32) × (Nat → Nat → Int32)) → Prop) : Prop := match n_ with
  | 0 => False
  | n + 1 => wpX11_packed_b5_body (fun f g x1 x2 x3 x4 => wpX11_packed_b5 n f g x1 x2 x3 x4 K) f g x1 x2 x3 x4 K
def wpX11_packed_b0 (f : Nat → Int32) (g : Nat → Nat → Int32) (x1 : Int32) (x2 : Int32) (K : Int32 → ((Nat → Int32) × (Nat → Nat → Int32)) → Prop) : Prop :=
  ∃ n, wpX11_packed_b5 n f g x1 x2 (0 : Int32) x1 K
def wpX11_packed (f : Nat → Int32) (g : Nat → Nat → Int32) (x1 : Int32) (x2 : Int32) (K : Int32 → ((Nat → Int32) × (Nat → Nat → Int32)) → Prop) : Prop := wpX11_packed_b0 f g x1 x2 K
def wpX11_take_b407 (f : Nat → Int32) (g : Nat → Nat → Int32) (K : ((Nat → Int32) × (Nat → Nat → Int32)) → Prop) : Prop :=
  K (f, g)
def wpX11_take_b394 (f : Nat → Int32) (g : Nat → Nat → Int32) (k1 : Int32) (K : ((Nat → Int32) × (Nat → Nat → Int32)) → Prop) : Prop :=
  wpX11_take_b407 (upd (upd f 8 k1) 7 ((f 7) + (1 : Int32))) g K
def wpX11_take_b389 (f : Nat → Int32) (g : Nat → Nat → Int32) (K : ((Nat → Int32) × (Nat → Nat → Int32)) → Prop) : Prop :=
  wpX11_take_b394 f g (4 : Int32) K
def wpX11_take_b374 (f : Nat → Int32) (g : Nat → Nat → Int32) (k0 : Int32) (K : ((Nat → Int32) × (Nat → Nat → Int32)) → Prop) : Prop :=
  (((f 9) = (59 : Int32)) →
    wpX11_take_b389 f g K) ∧
  (¬ ((f 9) = (59 : Int32)) →
    ((k0 = 0) →
      wpX11_take_b394 f g (5 : Int32) K) ∧
    (¬ (k0 = 0) →
      wpX11_take_b389 f g K))
def wpX11_take_b373 (f : Nat → Int32) (g : Nat → Nat → Int32) (K : ((Nat → Int32) × (Nat → Nat → Int32)) → Prop) : Prop :=
  wpX11_take_b374 f g (0 : Int32) K
def wpX11_take_b369 (f : Nat → Int32) (g : Nat → Nat → Int32) (K : ((Nat → Int32) × (Nat → Nat → Int32)) → Prop) : Prop :=
  wpX11_take_b374 f g (1 : Int32) K
def wpX11_take_b306 (B258 : (Nat → Int32) → (Nat → Nat → Int32) → Prop) (f : Nat → Int32) (g : Nat → Nat → Int32) (k1 : Int32) (K : ((Nat → Int32) × (Nat → Nat → Int32)) → Prop) : Prop :=
  B258 (upd (upd f 9 k1) 7 ((f 7) + (1 : Int32))) g
def wpX11_take_b258_body (B258 : (Nat → Int32) → (Nat → Nat → Int32) → Prop) (f : Nat → Int32) (g : Nat → Nat → Int32) (K : ((Nat → Int32) × (Nat → Nat → Int32)) → Prop) : Prop :=
  wpX11_isDigit f g (f 7) (fun r263 u263 =>
    ((r263 = 0) →
    wpX11_take_b407 u263.1 u263.2 K) ∧
  (¬ (r263 = 0) →
    (((u263.1 9) ≤ (99 : Int32)) →
      vp_in (u263.1 7) 500 ∧ wpX11_take_b306 B258 u263.1 u263.2 ((((10 : Int32) * (u263.1 9)) + (u263.2 0 (ix (u263.1 7)))) - (48 : Int32)) K) ∧
    (¬ ((u263.1 9) ≤ (99 : Int32)) →
      wpX11_take_b306 B258 u263.1 u263.2 (u263.1 9) K)))
def wpX11_take_b258 (n_ : Nat) (f : Nat → Int32) (g : Nat → Nat → Int32) (K : ((Nat → Int32) × (Nat → Nat → Int32)) → Prop) : Prop := match n_ with
  | 0 => False
  | n + 1 => wpX11_take_b258_body (fun f g => wpX11_take_b258 n f g K) f g K
def wpX11_take_b234 (f : Nat → Int32) (g : Nat → Nat → Int32) (K : ((Nat → Int32) × (Nat → Nat → Int32)) → Prop) : Prop :=
  wpX11_take_b407 f g K
def wpX11_take_b207 (f : Nat → Int32) (g : Nat → Nat → Int32) (k1 : Int32) (K : ((Nat → Int32) × (Nat → Nat → Int32)) → Prop) : Prop :=
  (¬ (k1 = (2 : Int32)) →
    wpX11_take_b234 (upd f 8 k1) g K) ∧
  ((k1 = (2 : Int32)) →
    wpX11_packed (upd f 8 k1) g (f 10) (f 7) (fun r228 u228 =>
      wpX11_take_b234 (upd u228.1 9 r228) u228.2 K))
def wpX11_take_b206 (f : Nat → Int32) (g : Nat → Nat → Int32) (K : ((Nat → Int32) × (Nat → Nat → Int32)) → Prop) : Prop :=
  wpX11_take_b207 f g (5 : Int32) K
def wpX11_take_b171 (f : Nat → Int32) (g : Nat → Nat → Int32) (k0 : Int32) (K : ((Nat → Int32) × (Nat → Nat → Int32)) → Prop) : Prop :=
  ((k0 = 0) →
    (((f 11) = 0) →
      wpX11_take_b206 f g K) ∧
    (¬ ((f 11) = 0) →
      (((7 : Int32) ≤ ((f 7) - (f 10))) →
        wpX11_take_b206 f g K) ∧
      (¬ ((7 : Int32) ≤ ((f 7) - (f 10))) →
        wpX11_take_b207 f g (2 : Int32) K))) ∧
  (¬ (k0 = 0) →
    wpX11_take_b207 f g (1 : Int32) K)
def wpX11_take_b170 (f : Nat → Int32) (g : Nat → Nat → Int32) (K : ((Nat → Int32) × (Nat → Nat → Int32)) → Prop) : Prop :=
  wpX11_take_b171 f g (0 : Int32) K
def wpX11_take_b166 (f : Nat → Int32) (g : Nat → Nat → Int32) (K : ((Nat → Int32) × (Nat → Nat → Int32)) → Prop) : Prop :=
  wpX11_take_b171 f g (1 : Int32) K
def wpX11_take_b90_body (B90 : (Nat → Int32) → (Nat → Nat → Int32) → Prop) (f : Nat → Int32) (g : Nat → Nat → Int32) (K : ((Nat → Int32) × (Nat → Nat → Int32)) → Prop) : Prop :=
  wpX11_isSmall f g (f 7) (fun r95 u95 =>
    ((r95 = 0) →
    wpX11_wordAt u95.1 u95.2 (u95.1 10) (u95.1 7) (fun r124 u124 =>
      ((r124 < 0) →
      wpX11_take_b170 (upd u124.1 9 r124) u124.2 K) ∧
    (¬ (r124 < 0) →
      (((u124.1 11) = 0) →
        (((20 : Int32) ≤ r124) →
          wpX11_take_b170 (upd u124.1 9 r124) u124.2 K) ∧
        (¬ ((20 : Int32) ≤ r124) →
          wpX11_take_b166 (upd u124.1 9 r124) u124.2 K)) ∧
      (¬ ((u124.1 11) = 0) →
        wpX11_isOfNet r124 (fun r148 u148 =>
          ((r148 = 0) →
          wpX11_take_b170 (upd u124.1 9 r124) u124.2 K) ∧
        (¬ (r148 = 0) →
          wpX11_take_b166 (upd u124.1 9 r124) u124.2 K)))))) ∧
  (¬ (r95 = 0) →
    B90 (upd u95.1 7 ((u95.1 7) + (1 : Int32))) u95.2))
def wpX11_take_b90 (n_ : Nat) (f : Nat → Int32) (g : Nat → Nat → Int32) (K : ((Nat → Int32) × (Nat → Nat → Int32)) → Prop) : Prop := match n_ with
  | 0 => False
  | n + 1 => wpX11_take_b90_body (fun f g => wpX11_take_b90 n f g K) f g K
def wpX11_take_b52 (f : Nat → Int32) (g : Nat → Nat → Int32) (K : ((Nat → Int32) × (Nat → Nat → Int32)) → Prop) : Prop :=
  (¬ ((f 7) = (f 6)) →
    wpX11_isSmall (upd f 10 (f 7)) g (f 7) (fun r84 u84 =>
      ((r84 = 0) →
      wpX11_isDigit u84.1 u84.2 (u84.1 7) (fun r242 u242 =>
        ((r242 = 0) →
        vp_in (u242.1 7) 500 ∧ (((u242.1 11) = 0) →
          wpX11_take_b373 (upd u242.1 9 (u242.2 0 (ix (u242.1 7)))) u242.2 K) ∧
        (¬ ((u242.1 11) = 0) →
          (((u242.2 0 (ix (u242.1 7))) = (40 : Int32)) →
            wpX11_take_b369 (upd u242.1 9 (u242.2 0 (ix (u242.1 7)))) u242.2 K) ∧
          (¬ ((u242.2 0 (ix (u242.1 7))) = (40 : Int32)) →
            (((u242.2 0 (ix (u242.1 7))) = (41 : Int32)) →
              wpX11_take_b369 (upd u242.1 9 (u242.2 0 (ix (u242.1 7)))) u242.2 K) ∧
            (¬ ((u242.2 0 (ix (u242.1 7))) = (41 : Int32)) →
              (¬ ((u242.2 0 (ix (u242.1 7))) = (61 : Int32)) →
                wpX11_take_b373 (upd u242.1 9 (u242.2 0 (ix (u242.1 7)))) u242.2 K) ∧
              (((u242.2 0 (ix (u242.1 7))) = (61 : Int32)) →
                wpX11_take_b369 (upd u242.1 9 (u242.2 0 (ix (u242.1 7)))) u242.2 K))))) ∧
      (¬ (r242 = 0) →
        ∃ n, wpX11_take_b258 n (upd (upd u242.1 8 (3 : Int32)) 9 (0 : Int32)) u242.2 K))) ∧
    (¬ (r84 = 0) →
      ∃ n, wpX11_take_b90 n u84.1 u84.2 K))) ∧
  (((f 7) = (f 6)) →
    wpX11_take_b407 (upd (upd f 10 (f 7)) 8 (0 : Int32)) g K)
def wpX11_take_b39 (B0 : (Nat → Int32) → (Nat → Nat → Int32) → Prop) (f : Nat → Int32) (g : Nat → Nat → Int32) (K : ((Nat → Int32) × (Nat → Nat → Int32)) → Prop) : Prop :=
  B0 (upd f 7 ((f 7) + (1 : Int32))) g
def wpX11_take_b0_body (B0 : (Nat → Int32) → (Nat → Nat → Int32) → Prop) (f : Nat → Int32) (g : Nat → Nat → Int32) (K : ((Nat → Int32) × (Nat → Nat → Int32)) → Prop) : Prop :=
  (((f 6) ≤ (f 7)) →
    wpX11_take_b52 f g K) ∧
  (¬ ((f 6) ≤ (f 7)) →
    vp_in (f 7) 500 ∧ (((g 0 (ix (f 7))) = (10 : Int32)) →
      wpX11_take_b39 B0 f g K) ∧
    (¬ ((g 0 (ix (f 7))) = (10 : Int32)) →
      vp_in (f 7) 500 ∧ (¬ ((g 0 (ix (f 7))) = (32 : Int32)) →
        wpX11_take_b52 f g K) ∧
      (((g 0 (ix (f 7))) = (32 : Int32)) →
        wpX11_take_b39 B0 f g K)))
def wpX11_take_b0 (n_ : Nat) (f : Nat → Int32) (g : Nat → Nat → Int32) (K : ((Nat → Int32) × (Nat → Nat → Int32)) → Prop) : Prop := match n_ with
  | 0 => False
  | n + 1 => wpX11_take_b0_body (fun f g => wpX11_take_b0 n f g K) f g K
def wpX11_take (f : Nat → Int32) (g : Nat → Nat → Int32) (K : ((Nat → Int32) × (Nat → Nat → Int32)) → Prop) : Prop := ∃ n, wpX11_take_b0 n f g K
def wpX11_isKey_b21 (f : Nat → Int32) (g : Nat → Nat → Int32) (k0 : Int32) (K : Int32 → ((Nat → Int32) × (Nat → Nat → Int32)) → Prop) : Prop :=
  isB k0 ∧ K k0 (f, g)
def wpX11_isKey_b20 (f : Nat → Int32) (g : Nat → Nat → Int32) (K : Int32 → ((Nat → Int32) × (Nat → Nat → Int32)) → Prop) : Prop :=
  wpX11_isKey_b21 f g (0 : Int32) K
def wpX11_isKey_b0 (f : Nat → Int32) (g : Nat → Nat → Int32) (x1 : Int32) (K : Int32 → ((Nat → Int32) × (Nat → Nat → Int32)) → Prop) : Prop :=
  (¬ ((f 8) = (1 : Int32)) →
    wpX11_isKey_b20 f g K) ∧
  (((f 8) = (1 : Int32)) →
    (¬ ((f 9) = x1) →
      wpX11_isKey_b20 f g K) ∧
    (((f 9) = x1) →
      wpX11_isKey_b21 f g (1 : Int32) K))
def wpX11_isKey (f : Nat → Int32) (g : Nat → Nat → Int32) (x1 : Int32) (K : Int32 → ((Nat → Int32) × (Nat → Nat → Int32)) → Prop) : Prop := wpX11_isKey_b0 f g x1 K
def wpX11_isSign_b21 (f : Nat → Int32) (g : Nat → Nat → Int32) (k0 : Int32) (K : Int32 → ((Nat → Int32) × (Nat → Nat → Int32)) → Prop) : Prop :=
  isB k0 ∧ K k0 (f, g)
def wpX11_isSign_b20 (f : Nat → Int32) (g : Nat → Nat → Int32) (K : Int32 → ((Nat → Int32) × (Nat → Nat → Int32)) → Prop) : Prop :=
  wpX11_isSign_b21 f g (0 : Int32) K
def wpX11_isSign_b0 (f : Nat → Int32) (g : Nat → Nat → Int32) (x1 : Int32) (K : Int32 → ((Nat → Int32) × (Nat → Nat → Int32)) → Prop) : Prop :=
  (¬ ((f 8) = (4 : Int32)) →
    wpX11_isSign_b20 f g K) ∧
  (((f 8) = (4 : Int32)) →
    (¬ ((f 9) = x1) →
      wpX11_isSign_b20 f g K) ∧
    (((f 9) = x1) →
      wpX11_isSign_b21 f g (1 : Int32) K))
def wpX11_isSign (f : Nat → Int32) (g : Nat → Nat → Int32) (x1 : Int32) (K : Int32 → ((Nat → Int32) × (Nat → Nat → Int32)) → Prop) : Prop := wpX11_isSign_b0 f g x1 K
def wpX11_signRead_b0 (f : Nat → Int32) (g : Nat → Nat → Int32) (x1 : Int32) (K : Int32 → ((Nat → Int32) × (Nat → Nat → Int32)) → Prop) : Prop :=
  wpX11_isSign f g x1 (fun r2 u2 =>
    (¬ (r2 = 0) →
    wpX11_take u2.1 u2.2  (fun u15 =>
      K (1 : Int32) (u15.1, u15.2))) ∧
  ((r2 = 0) →
    wpX11_wrong u2.1 u2.2 (1 : Int32) (fun r10 u10 =>
      isB r10 ∧ K r10 (u10.1, u10.2))))
def wpX11_signRead (f : Nat → Int32) (g : Nat → Nat → Int32) (x1 : Int32) (K : Int32 → ((Nat → Int32) × (Nat → Nat → Int32)) → Prop) : Prop := wpX11_signRead_b0 f g x1 K
def wpX11_starts_b12 (f : Nat → Int32) (g : Nat → Nat → Int32) (K : Int32 → ((Nat → Int32) × (Nat → Nat → Int32)) → Prop) : Prop :=
  K (0 : Int32) (f, g)
def wpX11_starts_b0 (f : Nat → Int32) (g : Nat → Nat → Int32) (x1 : Int32) (x2 : Int32) (K : Int32 → ((Nat → Int32) × (Nat → Nat → Int32)) → Prop) : Prop :=
  ((x1 < 0) →
    wpX11_starts_b12 f g K) ∧
  (¬ (x1 < 0) →
    ((x1 ≤ (f 1)) →
      isB x2 ∧ wpX11_take (upd (upd (upd (upd (upd (upd f 6 x1) 1 (0 : Int32)) 4 (0 : Int32)) 5 (-1 : Int32)) 7 (0 : Int32)) 11 x2) g  (fun u45 =>
        K (1 : Int32) (u45.1, u45.2))) ∧
    (¬ (x1 ≤ (f 1)) →
      wpX11_starts_b12 f g K))
def wpX11_starts (f : Nat → Int32) (g : Nat → Nat → Int32) (x1 : Int32) (x2 : Int32) (K : Int32 → ((Nat → Int32) × (Nat → Nat → Int32)) → Prop) : Prop := wpX11_starts_b0 f g x1 x2 K
def wpX11_numberRead_b35 (f : Nat → Int32) (g : Nat → Nat → Int32) (k0 : Int32) (K : Int32 → ((Nat → Int32) × (Nat → Nat → Int32)) → Prop) : Prop :=
  isB k0 ∧ K k0 (f, g)
def wpX11_numberRead_b30 (f : Nat → Int32) (g : Nat → Nat → Int32) (K : Int32 → ((Nat → Int32) × (Nat → Nat → Int32)) → Prop) : Prop :=
  wpX11_numberRead_b35 f g (1 : Int32) K
def wpX11_numberRead_b0 (f : Nat → Int32) (g : Nat → Nat → Int32) (x1 : Int32) (K : Int32 → ((Nat → Int32) × (Nat → Nat → Int32)) → Prop) : Prop :=
  (((f 8) = (3 : Int32)) →
    (((f 9) ≤ x1) →
      wpX11_numberRead_b30 f g K) ∧
    (¬ ((f 9) ≤ x1) →
      wpX11_wrong f g (2 : Int32) (fun r24 u24 =>
        ((r24 = 0) →
        wpX11_numberRead_b35 u24.1 u24.2 (0 : Int32) K) ∧
      (¬ (r24 = 0) →
        wpX11_numberRead_b30 u24.1 u24.2 K)))) ∧
  (¬ ((f 8) = (3 : Int32)) →
    wpX11_wrong f g (1 : Int32) (fun r10 u10 =>
      isB r10 ∧ K r10 (u10.1, u10.2)))
def wpX11_numberRead (f : Nat → Int32) (g : Nat → Nat → Int32) (x1 : Int32) (K : Int32 → ((Nat → Int32) × (Nat → Nat → Int32)) → Prop) : Prop := wpX11_numberRead_b0 f g x1 K
def wpX11_testRead_b91 (f : Nat → Int32) (g : Nat → Nat → Int32) (K : Int32 → ((Nat → Int32) × (Nat → Nat → Int32)) → Prop) : Prop :=
  wpX11_wrong f g (1 : Int32) (fun r93 u93 =>
    isB r93 ∧ K r93 (u93.1, u93.2))
def wpX11_testRead_b257 (B208 : (Nat → Int32) → (Nat → Nat → Int32) → Int32 → Int32 → Int32 → Int32 → Int32 → Prop) (f : Nat → Int32) (g : Nat → Nat → Int32) (x1 : Int32) (x3 : Int32) (x4 : Int32) (x5 : Int32) (x6 : Int32) (K : Int32 → ((Nat → Int32) × (Nat → Nat → Int32)) → Prop) : Prop :=
  B208 f g x1 x3 x4 x5 (x6 + (1 : Int32))
def wpX11_testRead_b208_body (B208 : (Nat → Int32) → (Nat → Nat → Int32) → Int32 → Int32 → Int32 → Int32 → Int32 → Prop) (f : Nat → Int32) (g : Nat → Nat → Int32) (x1 : Int32) (x3 : Int32) (x4 : Int32) (x5 : Int32) (x6 : Int32) (K : Int32 → ((Nat → Int32) × (Nat → Nat → Int32)) → Prop) : Prop :=
  ((x3 ≤ x6) →
    vp_in x1 60 ∧ vp_in x1 60 ∧ K (1 : Int32) (f, pt g 13 (ix x1) ((g 13 (ix x1)) + (1 : Int32)))) ∧
  (¬ (x3 ≤ x6) →
    vp_in x6 720 ∧ (¬ ((g 15 (ix x6)) = x4) →
      wpX11_testRead_b257 B208 f g x1 x3 x4 x5 x6 K) ∧
    (((g 15 (ix x6)) = x4) →
      vp_in x6 720 ∧ vp_in x3 720 ∧ (((g 16 (ix x6)) = (g 16 (ix x3))) →
        wpX11_wrong (upd f 10 x5) g (3 : Int32) (fun r253 u253 =>
          isB r253 ∧ K r253 (u253.1, u253.2))) ∧
      (¬ ((g 16 (ix x6)) = (g 16 (ix x3))) →
        wpX11_testRead_b257 B208 f g x1 x3 x4 x5 x6 K)))
def wpX11_testRead_b208 (n_ : Nat) (f : Nat → Int32) (g : Nat → Nat → Int32) (x1 : Int32) (x3 : Int32) (x4 : Int32) (x5 : Int32) (x6 : Int32) (K : Int32 → ((Nat → Int32) × (Nat → Nat → Int32)) → Prop) : Prop := match n_ with
  | 0 => False
  | n + 1 => wpX11_testRead_b208_body (fun f g x1 x3 x4 x5 x6 => wpX11_testRead_b208 n f g x1 x3 x4 x5 x6 K) f g x1 x3 x4 x5 x6 K
def wpX11_testRead_b202 (f : Nat → Int32) (g : Nat → Nat → Int32) (x1 : Int32) (x3 : Int32) (x4 : Int32) (x5 : Int32) (K : Int32 → ((Nat → Int32) × (Nat → Nat → Int32)) → Prop) : Prop :=
  ∃ n, wpX11_testRead_b208 n f g x1 x3 x4 x5 ((12 : Int32) * x1) K
def wpX11_testRead_b180 (f : Nat → Int32) (g : Nat → Nat → Int32) (k1 : Int32) (x1 : Int32) (x3 : Int32) (x4 : Int32) (x5 : Int32) (K : Int32 → ((Nat → Int32) × (Nat → Nat → Int32)) → Prop) : Prop :=
  wpX11_numberRead f g k1 (fun r180 u180 =>
    (¬ (r180 = 0) →
    vp_in x3 720 ∧ wpX11_take u180.1 (pt u180.2 16 (ix x3) (u180.1 9))  (fun u199 =>
      wpX11_testRead_b202 u199.1 u199.2 x1 x3 x4 x5 K)) ∧
  ((r180 = 0) →
    K (0 : Int32) (u180.1, u180.2)))
def wpX11_testRead_b66 (f : Nat → Int32) (g : Nat → Nat → Int32) (x1 : Int32) (x2 : Int32) (K : Int32 → ((Nat → Int32) × (Nat → Nat → Int32)) → Prop) : Prop :=
  (¬ ((f 8) = (1 : Int32)) →
    wpX11_testRead_b91 f g K) ∧
  (((f 8) = (1 : Int32)) →
    (((f 9) < (3 : Int32)) →
      wpX11_testRead_b91 f g K) ∧
    (¬ ((f 9) < (3 : Int32)) →
      (((f 9) ≤ (8 : Int32)) →
        vp_in x1 60 ∧ vp_in (((12 : Int32) * x1) + (g 13 (ix x1))) 720 ∧ vp_in (((12 : Int32) * x1) + (g 13 (ix x1))) 720 ∧ vp_in (((12 : Int32) * x1) + (g 13 (ix x1))) 720 ∧ wpX11_take f (pt (pt (pt g 15 (ix (((12 : Int32) * x1) + (g 13 (ix x1)))) (f 9)) 17 (ix (((12 : Int32) * x1) + (g 13 (ix x1)))) (vp_nar .boolean x2)) 16 (ix (((12 : Int32) * x1) + (g 13 (ix x1)))) (0 : Int32))  (fun u144 =>
          (((f 9) < (6 : Int32)) →
          wpX11_testRead_b202 u144.1 u144.2 x1 (((12 : Int32) * x1) + (g 13 (ix x1))) (f 9) (f 10) K) ∧
        (¬ ((f 9) < (6 : Int32)) →
          (¬ ((f 9) = (6 : Int32)) →
            (¬ ((f 9) = (7 : Int32)) →
              wpX11_testRead_b180 u144.1 u144.2 (2 : Int32) x1 (((12 : Int32) * x1) + (g 13 (ix x1))) (f 9) (f 10) K) ∧
            (((f 9) = (7 : Int32)) →
              wpX11_testRead_b180 u144.1 u144.2 (99 : Int32) x1 (((12 : Int32) * x1) + (g 13 (ix x1))) (f 9) (f 10) K)) ∧
          (((f 9) = (6 : Int32)) →
            wpX11_testRead_b180 u144.1 u144.2 (9 : Int32) x1 (((12 : Int32) * x1) + (g 13 (ix x1))) (f 9) (f 10) K)))) ∧
      (¬ ((f 9) ≤ (8 : Int32)) →
        wpX11_testRead_b91 f g K)))
def wpX11_testRead_b41 (f : Nat → Int32) (g : Nat → Nat → Int32) (x1 : Int32) (x2 : Int32) (K : Int32 → ((Nat → Int32) × (Nat → Nat → Int32)) → Prop) : Prop :=
  vp_in x1 60 ∧ (¬ ((g 13 (ix x1)) = (12 : Int32)) →
    ((x2 = 0) →
      wpX11_testRead_b66 f g x1 x2 K) ∧
    (¬ (x2 = 0) →
      wpX11_take f g  (fun u63 =>
        wpX11_testRead_b66 u63.1 u63.2 x1 x2 K))) ∧
  (((g 13 (ix x1)) = (12 : Int32)) →
    wpX11_wrong f g (2 : Int32) (fun r54 u54 =>
      isB r54 ∧ K r54 (u54.1, u54.2)))
def wpX11_testRead_b35 (f : Nat → Int32) (g : Nat → Nat → Int32) (K : Int32 → ((Nat → Int32) × (Nat → Nat → Int32)) → Prop) : Prop :=
  wpX11_wrong f g (1 : Int32) (fun r37 u37 =>
    isB r37 ∧ K r37 (u37.1, u37.2))
def wpX11_testRead_b0 (f : Nat → Int32) (g : Nat → Nat → Int32) (x1 : Int32) (K : Int32 → ((Nat → Int32) × (Nat → Nat → Int32)) → Prop) : Prop :=
  wpX11_isKey f g (2 : Int32) (fun r2 u2 =>
    (¬ (r2 = 0) →
    wpX11_testRead_b41 u2.1 u2.2 x1 r2 K) ∧
  ((r2 = 0) →
    (¬ ((u2.1 8) = (1 : Int32)) →
      wpX11_testRead_b35 u2.1 u2.2 K) ∧
    (((u2.1 8) = (1 : Int32)) →
      (((u2.1 9) < (3 : Int32)) →
        wpX11_testRead_b35 u2.1 u2.2 K) ∧
      (¬ ((u2.1 9) < (3 : Int32)) →
        (((u2.1 9) ≤ (8 : Int32)) →
          wpX11_testRead_b41 u2.1 u2.2 x1 r2 K) ∧
        (¬ ((u2.1 9) ≤ (8 : Int32)) →
          wpX11_testRead_b35 u2.1 u2.2 K)))))
def wpX11_testRead (f : Nat → Int32) (g : Nat → Nat → Int32) (x1 : Int32) (K : Int32 → ((Nat → Int32) × (Nat → Nat → Int32)) → Prop) : Prop := wpX11_testRead_b0 f g x1 K
def wpX11_actRead_b35 (f : Nat → Int32) (g : Nat → Nat → Int32) (K : Int32 → ((Nat → Int32) × (Nat → Nat → Int32)) → Prop) : Prop :=
  wpX11_wrong f g (1 : Int32) (fun r37 u37 =>
    isB r37 ∧ K r37 (u37.1, u37.2))
def wpX11_actRead_b164 (f : Nat → Int32) (g : Nat → Nat → Int32) (x1 : Int32) (K : Int32 → ((Nat → Int32) × (Nat → Nat → Int32)) → Prop) : Prop :=
  vp_in x1 60 ∧ vp_in x1 60 ∧ K (1 : Int32) (f, pt g 14 (ix x1) ((g 14 (ix x1)) + (1 : Int32)))
def wpX11_actRead_b142 (f : Nat → Int32) (g : Nat → Nat → Int32) (k1 : Int32) (x1 : Int32) (x2 : Int32) (K : Int32 → ((Nat → Int32) × (Nat → Nat → Int32)) → Prop) : Prop :=
  wpX11_numberRead f g k1 (fun r142 u142 =>
    (¬ (r142 = 0) →
    vp_in x2 720 ∧ wpX11_take u142.1 (pt u142.2 19 (ix x2) (u142.1 9))  (fun u161 =>
      wpX11_actRead_b164 u161.1 u161.2 x1 K)) ∧
  ((r142 = 0) →
    K (0 : Int32) (u142.1, u142.2)))
def wpX11_actRead_b124 (f : Nat → Int32) (g : Nat → Nat → Int32) (x1 : Int32) (x2 : Int32) (K : Int32 → ((Nat → Int32) × (Nat → Nat → Int32)) → Prop) : Prop :=
  vp_in x2 720 ∧ (¬ ((g 18 (ix x2)) = (6 : Int32)) →
    wpX11_actRead_b142 f g (2 : Int32) x1 x2 K) ∧
  (((g 18 (ix x2)) = (6 : Int32)) →
    wpX11_actRead_b142 f g (9 : Int32) x1 x2 K)
def wpX11_actRead_b41 (f : Nat → Int32) (g : Nat → Nat → Int32) (x1 : Int32) (K : Int32 → ((Nat → Int32) × (Nat → Nat → Int32)) → Prop) : Prop :=
  vp_in x1 60 ∧ (¬ ((g 14 (ix x1)) = (12 : Int32)) →
    vp_in x1 60 ∧ vp_in (((12 : Int32) * x1) + (g 14 (ix x1))) 720 ∧ vp_in (((12 : Int32) * x1) + (g 14 (ix x1))) 720 ∧ wpX11_take f (pt (pt g 18 (ix (((12 : Int32) * x1) + (g 14 (ix x1)))) (f 9)) 19 (ix (((12 : Int32) * x1) + (g 14 (ix x1)))) (0 : Int32))  (fun u88 =>
      vp_in (((12 : Int32) * x1) + (g 14 (ix x1))) 720 ∧ (((u88.2 18 (ix (((12 : Int32) * x1) + (g 14 (ix x1))))) = (6 : Int32)) →
      wpX11_actRead_b124 u88.1 u88.2 x1 (((12 : Int32) * x1) + (g 14 (ix x1))) K) ∧
    (¬ ((u88.2 18 (ix (((12 : Int32) * x1) + (g 14 (ix x1))))) = (6 : Int32)) →
      vp_in (((12 : Int32) * x1) + (g 14 (ix x1))) 720 ∧ (((u88.2 18 (ix (((12 : Int32) * x1) + (g 14 (ix x1))))) = (15 : Int32)) →
        wpX11_actRead_b124 u88.1 u88.2 x1 (((12 : Int32) * x1) + (g 14 (ix x1))) K) ∧
      (¬ ((u88.2 18 (ix (((12 : Int32) * x1) + (g 14 (ix x1))))) = (15 : Int32)) →
        vp_in (((12 : Int32) * x1) + (g 14 (ix x1))) 720 ∧ (¬ ((u88.2 18 (ix (((12 : Int32) * x1) + (g 14 (ix x1))))) = (16 : Int32)) →
          wpX11_actRead_b164 u88.1 u88.2 x1 K) ∧
        (((u88.2 18 (ix (((12 : Int32) * x1) + (g 14 (ix x1))))) = (16 : Int32)) →
          wpX11_actRead_b124 u88.1 u88.2 x1 (((12 : Int32) * x1) + (g 14 (ix x1))) K))))) ∧
  (((g 14 (ix x1)) = (12 : Int32)) →
    wpX11_wrong f g (2 : Int32) (fun r54 u54 =>
      isB r54 ∧ K r54 (u54.1, u54.2)))
def wpX11_actRead_b0 (f : Nat → Int32) (g : Nat → Nat → Int32) (x1 : Int32) (K : Int32 → ((Nat → Int32) × (Nat → Nat → Int32)) → Prop) : Prop :=
  (¬ ((f 8) = (1 : Int32)) →
    wpX11_actRead_b35 f g K) ∧
  (((f 8) = (1 : Int32)) →
    (((f 9) = (6 : Int32)) →
      wpX11_actRead_b41 f g x1 K) ∧
    (¬ ((f 9) = (6 : Int32)) →
      (((f 9) < (9 : Int32)) →
        wpX11_actRead_b35 f g K) ∧
      (¬ ((f 9) < (9 : Int32)) →
        (((f 9) ≤ (19 : Int32)) →
          wpX11_actRead_b41 f g x1 K) ∧
        (¬ ((f 9) ≤ (19 : Int32)) →
          wpX11_actRead_b35 f g K))))
def wpX11_actRead (f : Nat → Int32) (g : Nat → Nat → Int32) (x1 : Int32) (K : Int32 → ((Nat → Int32) × (Nat → Nat → Int32)) → Prop) : Prop := wpX11_actRead_b0 f g x1 K
def wpX11_lineRead_b87_body (B87 : (Nat → Int32) → (Nat → Nat → Int32) → Int32 → Prop) (f : Nat → Int32) (g : Nat → Nat → Int32) (x2 : Int32) (K : Int32 → ((Nat → Int32) × (Nat → Nat → Int32)) → Prop) : Prop :=
  wpX11_actRead f g x2 (fun r89 u89 =>
    (¬ (r89 = 0) →
    wpX11_isSign u89.1 u89.2 (59 : Int32) (fun r100 u100 =>
      ((r100 = 0) →
      B87 u100.1 u100.2 x2) ∧
    (¬ (r100 = 0) →
      wpX11_take u100.1 u100.2  (fun u107 =>
        K (1 : Int32) (u107.1, u107.2))))) ∧
  ((r89 = 0) →
    K (0 : Int32) (u89.1, u89.2)))
def wpX11_lineRead_b87 (n_ : Nat) (f : Nat → Int32) (g : Nat → Nat → Int32) (x2 : Int32) (K : Int32 → ((Nat → Int32) × (Nat → Nat → Int32)) → Prop) : Prop := match n_ with
  | 0 => False
  | n + 1 => wpX11_lineRead_b87_body (fun f g x2 => wpX11_lineRead_b87 n f g x2 K) f g x2 K
def wpX11_lineRead_b83 (f : Nat → Int32) (g : Nat → Nat → Int32) (x2 : Int32) (K : Int32 → ((Nat → Int32) × (Nat → Nat → Int32)) → Prop) : Prop :=
  wpX11_take f g  (fun u84 =>
    ∃ n, wpX11_lineRead_b87 n u84.1 u84.2 x2 K)
def wpX11_lineRead_b65_body (B65 : (Nat → Int32) → (Nat → Nat → Int32) → Int32 → Prop) (f : Nat → Int32) (g : Nat → Nat → Int32) (x2 : Int32) (K : Int32 → ((Nat → Int32) × (Nat → Nat → Int32)) → Prop) : Prop :=
  wpX11_testRead f g x2 (fun r67 u67 =>
    (¬ (r67 = 0) →
    wpX11_isKey u67.1 u67.2 (1 : Int32) (fun r77 u77 =>
      ((r77 = 0) →
      B65 u77.1 u77.2 x2) ∧
    (¬ (r77 = 0) →
      wpX11_lineRead_b83 u77.1 u77.2 x2 K))) ∧
  ((r67 = 0) →
    K (0 : Int32) (u67.1, u67.2)))
def wpX11_lineRead_b65 (n_ : Nat) (f : Nat → Int32) (g : Nat → Nat → Int32) (x2 : Int32) (K : Int32 → ((Nat → Int32) × (Nat → Nat → Int32)) → Prop) : Prop := match n_ with
  | 0 => False
  | n + 1 => wpX11_lineRead_b65_body (fun f g x2 => wpX11_lineRead_b65 n f g x2 K) f g x2 K
def wpX11_lineRead_b22 (f : Nat → Int32) (g : Nat → Nat → Int32) (x1 : Int32) (K : Int32 → ((Nat → Int32) × (Nat → Nat → Int32)) → Prop) : Prop :=
  (¬ (x1 = (30 : Int32)) →
    vp_in ((30 : Int32) + x1) 60 ∧ vp_in ((30 : Int32) + x1) 60 ∧ wpX11_isKey f (pt (pt g 13 (ix ((30 : Int32) + x1)) (0 : Int32)) 14 (ix ((30 : Int32) + x1)) (0 : Int32)) (0 : Int32) (fun r55 u55 =>
      ((r55 = 0) →
      wpX11_lineRead_b83 u55.1 u55.2 ((30 : Int32) + x1) K) ∧
    (¬ (r55 = 0) →
      wpX11_take u55.1 u55.2  (fun u62 =>
        ∃ n, wpX11_lineRead_b65 n u62.1 u62.2 ((30 : Int32) + x1) K)))) ∧
  ((x1 = (30 : Int32)) →
    wpX11_wrong f g (2 : Int32) (fun r30 u30 =>
      isB r30 ∧ K r30 (u30.1, u30.2)))
def wpX11_lineRead_b0 (f : Nat → Int32) (g : Nat → Nat → Int32) (x1 : Int32) (K : Int32 → ((Nat → Int32) × (Nat → Nat → Int32)) → Prop) : Prop :=
  wpX11_isKey f g (0 : Int32) (fun r2 u2 =>
    (¬ (r2 = 0) →
    wpX11_lineRead_b22 u2.1 u2.2 x1 K) ∧
  ((r2 = 0) →
    wpX11_isKey u2.1 u2.2 (1 : Int32) (fun r10 u10 =>
      (¬ (r10 = 0) →
      wpX11_lineRead_b22 u10.1 u10.2 x1 K) ∧
    ((r10 = 0) →
      wpX11_wrong u10.1 u10.2 (1 : Int32) (fun r18 u18 =>
        isB r18 ∧ K r18 (u18.1, u18.2))))))
def wpX11_lineRead (f : Nat → Int32) (g : Nat → Nat → Int32) (x1 : Int32) (K : Int32 → ((Nat → Int32) × (Nat → Nat → Int32)) → Prop) : Prop := wpX11_lineRead_b0 f g x1 K
def wpX11_rules_b199_body (B199 : (Nat → Int32) → (Nat → Nat → Int32) → Int32 → Prop) (f : Nat → Int32) (g : Nat → Nat → Int32) (x3 : Int32) (K : Int32 → ((Nat → Int32) × (Nat → Nat → Int32)) → Prop) : Prop :=
  (((16 : Int32) ≤ x3) →
    K (f 12) (f, g)) ∧
  (¬ ((16 : Int32) ≤ x3) →
    vp_in x3 16 ∧ B199 f (pt g 58 (ix x3) (vp_nar .boolean (0 : Int32))) (x3 + (1 : Int32)))
def wpX11_rules_b199 (n_ : Nat) (f : Nat → Int32) (g : Nat → Nat → Int32) (x3 : Int32) (K : Int32 → ((Nat → Int32) × (Nat → Nat → Int32)) → Prop) : Prop := match n_ with
  | 0 => False
  | n + 1 => wpX11_rules_b199_body (fun f g x3 => wpX11_rules_b199 n f g x3 K) f g x3 K
def wpX11_rules_b95_body (B95 : (Nat → Int32) → (Nat → Nat → Int32) → Int32 → Prop) (f : Nat → Int32) (g : Nat → Nat → Int32) (x3 : Int32) (K : Int32 → ((Nat → Int32) × (Nat → Nat → Int32)) → Prop) : Prop :=
  ((((12 : Int32) * (f 12)) ≤ x3) →
    ∃ n, wpX11_rules_b199 n (upd f 51 (-1 : Int32)) g (0 : Int32) K) ∧
  (¬ (((12 : Int32) * (f 12)) ≤ x3) →
    vp_in ((360 : Int32) + x3) 720 ∧ vp_in x3 720 ∧ vp_in ((360 : Int32) + x3) 720 ∧ vp_in x3 720 ∧ vp_in ((360 : Int32) + x3) 720 ∧ vp_in x3 720 ∧ vp_in ((360 : Int32) + x3) 720 ∧ vp_in x3 720 ∧ vp_in ((360 : Int32) + x3) 720 ∧ vp_in x3 720 ∧ B95 f (pt (pt (pt (pt (pt g 15 (ix x3) (g 15 (ix ((360 : Int32) + x3)))) 16 (ix x3) (g 16 (ix ((360 : Int32) + x3)))) 17 (ix x3) (vp_nar .boolean (g 17 (ix ((360 : Int32) + x3))))) 18 (ix x3) (g 18 (ix ((360 : Int32) + x3)))) 19 (ix x3) (g 19 (ix ((360 : Int32) + x3)))) (x3 + (1 : Int32)))
def wpX11_rules_b95 (n_ : Nat) (f : Nat → Int32) (g : Nat → Nat → Int32) (x3 : Int32) (K : Int32 → ((Nat → Int32) × (Nat → Nat → Int32)) → Prop) : Prop := match n_ with
  | 0 => False
  | n + 1 => wpX11_rules_b95_body (fun f g x3 => wpX11_rules_b95 n f g x3 K) f g x3 K
def wpX11_rules_b49_body (B49 : (Nat → Int32) → (Nat → Nat → Int32) → Int32 → Prop) (f : Nat → Int32) (g : Nat → Nat → Int32) (x3 : Int32) (K : Int32 → ((Nat → Int32) × (Nat → Nat → Int32)) → Prop) : Prop :=
  (((f 12) ≤ x3) →
    ∃ n, wpX11_rules_b95 n f g (0 : Int32) K) ∧
  (¬ ((f 12) ≤ x3) →
    vp_in ((30 : Int32) + x3) 60 ∧ vp_in x3 60 ∧ vp_in ((30 : Int32) + x3) 60 ∧ vp_in x3 60 ∧ B49 f (pt (pt g 13 (ix x3) (g 13 (ix ((30 : Int32) + x3)))) 14 (ix x3) (g 14 (ix ((30 : Int32) + x3)))) (x3 + (1 : Int32)))
def wpX11_rules_b49 (n_ : Nat) (f : Nat → Int32) (g : Nat → Nat → Int32) (x3 : Int32) (K : Int32 → ((Nat → Int32) × (Nat → Nat → Int32)) → Prop) : Prop := match n_ with
  | 0 => False
  | n + 1 => wpX11_rules_b49_body (fun f g x3 => wpX11_rules_b49 n f g x3 K) f g x3 K
def wpX11_rules_b19_body (B19 : (Nat → Int32) → (Nat → Nat → Int32) → Int32 → Prop) (f : Nat → Int32) (g : Nat → Nat → Int32) (x2 : Int32) (K : Int32 → ((Nat → Int32) × (Nat → Nat → Int32)) → Prop) : Prop :=
  (((f 8) = 0) →
    ∃ n, wpX11_rules_b49 n (upd f 12 x2) g (0 : Int32) K) ∧
  (¬ ((f 8) = 0) →
    wpX11_lineRead f g x2 (fun r28 u28 =>
      (¬ (r28 = 0) →
      B19 u28.1 u28.2 (x2 + (1 : Int32))) ∧
    ((r28 = 0) →
      K (-1 : Int32) (u28.1, u28.2))))
def wpX11_rules_b19 (n_ : Nat) (f : Nat → Int32) (g : Nat → Nat → Int32) (x2 : Int32) (K : Int32 → ((Nat → Int32) × (Nat → Nat → Int32)) → Prop) : Prop := match n_ with
  | 0 => False
  | n + 1 => wpX11_rules_b19_body (fun f g x2 => wpX11_rules_b19 n f g x2 K) f g x2 K
def wpX11_rules_b0 (f : Nat → Int32) (g : Nat → Nat → Int32) (x1 : Int32) (K : Int32 → ((Nat → Int32) × (Nat → Nat → Int32)) → Prop) : Prop :=
  wpX11_starts (upd f 2 (0 : Int32)) g x1 (0 : Int32) (fun r8 u8 =>
    (¬ (r8 = 0) →
    ∃ n, wpX11_rules_b19 n u8.1 u8.2 (0 : Int32) K) ∧
  ((r8 = 0) →
    K (-2 : Int32) (u8.1, u8.2)))
def wpX11_rules (f : Nat → Int32) (g : Nat → Nat → Int32) (x1 : Int32) (K : Int32 → ((Nat → Int32) × (Nat → Nat → Int32)) → Prop) : Prop := wpX11_rules_b0 f g x1 K
def wpX11_fault_b29 (f : Nat → Int32) (g : Nat → Nat → Int32) (k0 : Int32) (K : Int32 → ((Nat → Int32) × (Nat → Nat → Int32)) → Prop) : Prop :=
  K k0 (f, g)
def wpX11_fault_b0 (f : Nat → Int32) (g : Nat → Nat → Int32) (x1 : Int32) (K : Int32 → ((Nat → Int32) × (Nat → Nat → Int32)) → Prop) : Prop :=
  (¬ (x1 = 0) →
    (¬ (x1 = (1 : Int32)) →
      wpX11_fault_b29 (upd f 2 (0 : Int32)) g (-1 : Int32) K) ∧
    ((x1 = (1 : Int32)) →
      wpX11_fault_b29 (upd f 2 (0 : Int32)) g (f 5) K)) ∧
  ((x1 = 0) →
    wpX11_fault_b29 (upd f 2 (0 : Int32)) g (f 4) K)
def wpX11_fault (f : Nat → Int32) (g : Nat → Nat → Int32) (x1 : Int32) (K : Int32 → ((Nat → Int32) × (Nat → Nat → Int32)) → Prop) : Prop := wpX11_fault_b0 f g x1 K
def wpX11_weight_b30 (k0 : Int32) (K : Int32 → Unit → Prop) : Prop :=
  K k0 ()
def wpX11_weight_b0 (x0 : Int32) (K : Int32 → Unit → Prop) : Prop :=
  (¬ (x0 = (5 : Int32)) →
    (¬ (x0 = (6 : Int32)) →
      (¬ (x0 = (7 : Int32)) →
        wpX11_weight_b30 (0 : Int32) K) ∧
      ((x0 = (7 : Int32)) →
        wpX11_weight_b30 (1 : Int32) K)) ∧
    ((x0 = (6 : Int32)) →
      wpX11_weight_b30 (2 : Int32) K)) ∧
  ((x0 = (5 : Int32)) →
    wpX11_weight_b30 (3 : Int32) K)
def wpX11_weight (x0 : Int32) (K : Int32 → Unit → Prop) : Prop := wpX11_weight_b0  x0 K
def wpX11_grown_b0 (f : Nat → Int32) (g : Nat → Nat → Int32) (x1 : Int32) (x2 : Int32) (x3 : Int32) (K : ((Nat → Int32) × (Nat → Nat → Int32)) → Prop) : Prop :=
  vp_in ((64 : Int32) + (f 23)) 128 ∧ vp_in ((64 : Int32) + (f 23)) 128 ∧ vp_in ((64 : Int32) + (f 23)) 128 ∧ vp_in ((64 : Int32) + (f 23)) 128 ∧ vp_in (f 34) 80 ∧ K (upd (upd f 34 ((f 34) + (1 : Int32))) 23 ((f 23) + (1 : Int32)), pt (pt (pt (pt (pt g 27 (ix ((64 : Int32) + (f 23))) x1) 28 (ix ((64 : Int32) + (f 23))) x2) 29 (ix ((64 : Int32) + (f 23))) x3) 30 (ix ((64 : Int32) + (f 23))) (f 10)) 32 (ix (f 34)) (f 23))
def wpX11_grown (f : Nat → Int32) (g : Nat → Nat → Int32) (x1 : Int32) (x2 : Int32) (x3 : Int32) (K : ((Nat → Int32) × (Nat → Nat → Int32)) → Prop) : Prop := wpX11_grown_b0 f g x1 x2 x3 K
def wpX11_drop_b0 (f : Nat → Int32) (g : Nat → Nat → Int32) (K : Int32 → ((Nat → Int32) × (Nat → Nat → Int32)) → Prop) : Prop :=
  vp_in ((f 34) - (1 : Int32)) 80 ∧ K (g 32 (ix ((f 34) - (1 : Int32)))) (upd f 34 ((f 34) - (1 : Int32)), g)
def wpX11_drop (f : Nat → Int32) (g : Nat → Nat → Int32) (K : Int32 → ((Nat → Int32) × (Nat → Nat → Int32)) → Prop) : Prop := wpX11_drop_b0 f g K
def wpX11_bind_b76 (f : Nat → Int32) (g : Nat → Nat → Int32) (K : ((Nat → Int32) × (Nat → Nat → Int32)) → Prop) : Prop :=
  K (f, g)
def wpX11_bind_b58 (B0 : (Nat → Int32) → (Nat → Nat → Int32) → Int32 → Prop) (f : Nat → Int32) (g : Nat → Nat → Int32) (k0 : Int32) (x1 : Int32) (x2 : Int32) (K : ((Nat → Int32) × (Nat → Nat → Int32)) → Prop) : Prop :=
  wpX11_drop f g  (fun r60 u60 =>
    wpX11_grown u60.1 u60.2 x2 r60 k0 (fun u70 =>
    B0 u70.1 u70.2 x1))
def wpX11_bind_b0_body (B0 : (Nat → Int32) → (Nat → Nat → Int32) → Int32 → Prop) (f : Nat → Int32) (g : Nat → Nat → Int32) (x1 : Int32) (K : ((Nat → Int32) × (Nat → Nat → Int32)) → Prop) : Prop :=
  (((f 33) ≤ 0) →
    wpX11_bind_b76 f g K) ∧
  (¬ ((f 33) ≤ 0) →
    vp_in ((f 33) - (1 : Int32)) 80 ∧ wpX11_weight (g 31 (ix ((f 33) - (1 : Int32)))) (fun r18 u18 =>
      ((r18 < x1) →
      wpX11_bind_b76 f g K) ∧
    (¬ (r18 < x1) →
      vp_in ((f 33) - (1 : Int32)) 80 ∧ (¬ ((g 31 (ix ((f 33) - (1 : Int32)))) = (5 : Int32)) →
        wpX11_drop (upd f 33 ((f 33) - (1 : Int32))) g  (fun r55 u55 =>
          wpX11_bind_b58 B0 u55.1 u55.2 r55 x1 (g 31 (ix ((f 33) - (1 : Int32)))) K)) ∧
      (((g 31 (ix ((f 33) - (1 : Int32)))) = (5 : Int32)) →
        wpX11_bind_b58 B0 (upd f 33 ((f 33) - (1 : Int32))) g (-1 : Int32) x1 (g 31 (ix ((f 33) - (1 : Int32)))) K))))
def wpX11_bind_b0 (n_ : Nat) (f : Nat → Int32) (g : Nat → Nat → Int32) (x1 : Int32) (K : ((Nat → Int32) × (Nat → Nat → Int32)) → Prop) : Prop := match n_ with
  | 0 => False
  | n + 1 => wpX11_bind_b0_body (fun f g x1 => wpX11_bind_b0 n f g x1 K) f g x1 K
def wpX11_bind (f : Nat → Int32) (g : Nat → Nat → Int32) (x1 : Int32) (K : ((Nat → Int32) × (Nat → Nat → Int32)) → Prop) : Prop := ∃ n, wpX11_bind_b0 n f g x1 K
def wpX11_isCounted_b0 (f : Nat → Int32) (g : Nat → Nat → Int32) (K : Int32 → ((Nat → Int32) × (Nat → Nat → Int32)) → Prop) : Prop :=
  (¬ ((f 36) = (64 : Int32)) →
    K (1 : Int32) (upd f 36 ((f 36) + (1 : Int32)), g)) ∧
  (((f 36) = (64 : Int32)) →
    wpX11_wrong f g (2 : Int32) (fun r11 u11 =>
      isB r11 ∧ K r11 (u11.1, u11.2)))
def wpX11_isCounted (f : Nat → Int32) (g : Nat → Nat → Int32) (K : Int32 → ((Nat → Int32) × (Nat → Nat → Int32)) → Prop) : Prop := wpX11_isCounted_b0 f g K
def wpX11_leafRead_b231 (f : Nat → Int32) (g : Nat → Nat → Int32) (K : Int32 → ((Nat → Int32) × (Nat → Nat → Int32)) → Prop) : Prop :=
  wpX11_take (upd f 37 (1 : Int32)) g  (fun u237 =>
    K (1 : Int32) (u237.1, u237.2))
def wpX11_leafRead_b213 (f : Nat → Int32) (g : Nat → Nat → Int32) (k1 : Int32) (K : Int32 → ((Nat → Int32) × (Nat → Nat → Int32)) → Prop) : Prop :=
  wpX11_grown f g k1 (0 : Int32) (0 : Int32) (fun u215 =>
    wpX11_leafRead_b231 u215.1 u215.2 K)
def wpX11_leafRead_b161 (f : Nat → Int32) (g : Nat → Nat → Int32) (x1 : Int32) (K : Int32 → ((Nat → Int32) × (Nat → Nat → Int32)) → Prop) : Prop :=
  wpX11_isCounted f g  (fun r162 u162 =>
    (¬ (r162 = 0) →
    ((x1 = 0) →
      wpX11_grown u162.1 u162.2 (4 : Int32) (u162.1 9) (0 : Int32) (fun u228 =>
        wpX11_leafRead_b231 u228.1 u228.2 K)) ∧
    (¬ (x1 = 0) →
      (¬ ((u162.1 9) = (3 : Int32)) →
        (¬ ((u162.1 9) = (4 : Int32)) →
          (¬ ((u162.1 9) = (23 : Int32)) →
            wpX11_leafRead_b213 u162.1 u162.2 (3 : Int32) K) ∧
          (((u162.1 9) = (23 : Int32)) →
            wpX11_leafRead_b213 u162.1 u162.2 (2 : Int32) K)) ∧
        (((u162.1 9) = (4 : Int32)) →
          wpX11_leafRead_b213 u162.1 u162.2 (1 : Int32) K)) ∧
      (((u162.1 9) = (3 : Int32)) →
        wpX11_leafRead_b213 u162.1 u162.2 (0 : Int32) K))) ∧
  ((r162 = 0) →
    K (0 : Int32) (u162.1, u162.2)))
def wpX11_leafRead_b142 (f : Nat → Int32) (g : Nat → Nat → Int32) (k0 : Int32) (K : Int32 → ((Nat → Int32) × (Nat → Nat → Int32)) → Prop) : Prop :=
  (¬ (k0 = 0) →
    wpX11_leafRead_b161 f g k0 K) ∧
  ((k0 = 0) →
    (((f 8) = (2 : Int32)) →
      wpX11_leafRead_b161 f g k0 K) ∧
    (¬ ((f 8) = (2 : Int32)) →
      wpX11_wrong f g (1 : Int32) (fun r157 u157 =>
        isB r157 ∧ K r157 (u157.1, u157.2))))
def wpX11_leafRead_b137 (f : Nat → Int32) (g : Nat → Nat → Int32) (K : Int32 → ((Nat → Int32) × (Nat → Nat → Int32)) → Prop) : Prop :=
  wpX11_leafRead_b142 f g (1 : Int32) K
def wpX11_leafRead_b0 (f : Nat → Int32) (g : Nat → Nat → Int32) (K : Int32 → ((Nat → Int32) × (Nat → Nat → Int32)) → Prop) : Prop :=
  wpX11_isSign f g (40 : Int32) (fun r3 u3 =>
    ((r3 = 0) →
    wpX11_isKey u3.1 u3.2 (2 : Int32) (fun r62 u62 =>
      ((r62 = 0) →
      wpX11_isKey u62.1 u62.2 (3 : Int32) (fun r105 u105 =>
        (¬ (r105 = 0) →
        wpX11_leafRead_b137 u105.1 u105.2 K) ∧
      ((r105 = 0) →
        wpX11_isKey u105.1 u105.2 (4 : Int32) (fun r113 u113 =>
          (¬ (r113 = 0) →
          wpX11_leafRead_b137 u113.1 u113.2 K) ∧
        ((r113 = 0) →
          wpX11_isKey u113.1 u113.2 (23 : Int32) (fun r122 u122 =>
            (¬ (r122 = 0) →
            wpX11_leafRead_b137 u122.1 u122.2 K) ∧
          ((r122 = 0) →
            wpX11_isKey u122.1 u122.2 (24 : Int32) (fun r131 u131 =>
              ((r131 = 0) →
              wpX11_leafRead_b142 u131.1 u131.2 (0 : Int32) K) ∧
            (¬ (r131 = 0) →
              wpX11_leafRead_b137 u131.1 u131.2 K))))))))) ∧
    (¬ (r62 = 0) →
      wpX11_isCounted u62.1 u62.2  (fun r69 u69 =>
        (¬ (r69 = 0) →
        vp_in (u69.1 33) 80 ∧ wpX11_take (upd u69.1 33 ((u69.1 33) + (1 : Int32))) (pt u69.2 31 (ix (u69.1 33)) (5 : Int32))  (fun u98 =>
          K (1 : Int32) (u98.1, u98.2))) ∧
      ((r69 = 0) →
        K (0 : Int32) (u69.1, u69.2)))))) ∧
  (¬ (r3 = 0) →
    (¬ ((u3.1 35) = (8 : Int32)) →
      vp_in (u3.1 33) 80 ∧ wpX11_take (upd (upd u3.1 35 ((u3.1 35) + (1 : Int32))) 33 ((u3.1 33) + (1 : Int32))) (pt u3.2 31 (ix (u3.1 33)) (0 : Int32))  (fun u55 =>
        K (1 : Int32) (u55.1, u55.2))) ∧
    (((u3.1 35) = (8 : Int32)) →
      wpX11_wrong u3.1 u3.2 (2 : Int32) (fun r20 u20 =>
        isB r20 ∧ K r20 (u20.1, u20.2)))))
def wpX11_leafRead (f : Nat → Int32) (g : Nat → Nat → Int32) (K : Int32 → ((Nat → Int32) × (Nat → Nat → Int32)) → Prop) : Prop := wpX11_leafRead_b0 f g K
def wpX11_signs_b34 (f : Nat → Int32) (g : Nat → Nat → Int32) (k0 : Int32) (K : Int32 → ((Nat → Int32) × (Nat → Nat → Int32)) → Prop) : Prop :=
  wpX11_isCounted f g  (fun r36 u36 =>
    (¬ (r36 = 0) →
    wpX11_weight k0 (fun r46 u46 =>
      wpX11_bind u36.1 u36.2 r46 (fun u49 =>
      vp_in (u49.1 33) 80 ∧ wpX11_take (upd (upd u49.1 33 ((u49.1 33) + (1 : Int32))) 37 (0 : Int32)) (pt u49.2 31 (ix (u49.1 33)) k0)  (fun u78 =>
      K (1 : Int32) (u78.1, u78.2))))) ∧
  ((r36 = 0) →
    K (0 : Int32) (u36.1, u36.2)))
def wpX11_signs_b18 (f : Nat → Int32) (g : Nat → Nat → Int32) (K : Int32 → ((Nat → Int32) × (Nat → Nat → Int32)) → Prop) : Prop :=
  (¬ ((f 9) = (22 : Int32)) →
    wpX11_signs_b34 f g (7 : Int32) K) ∧
  (((f 9) = (22 : Int32)) →
    wpX11_signs_b34 f g (6 : Int32) K)
def wpX11_signs_b99 (f : Nat → Int32) (g : Nat → Nat → Int32) (K : Int32 → ((Nat → Int32) × (Nat → Nat → Int32)) → Prop) : Prop :=
  wpX11_wrong f g (1 : Int32) (fun r101 u101 =>
    isB r101 ∧ K r101 (u101.1, u101.2))
def wpX11_signs_b0 (f : Nat → Int32) (g : Nat → Nat → Int32) (K : Int32 → ((Nat → Int32) × (Nat → Nat → Int32)) → Prop) : Prop :=
  wpX11_isKey f g (22 : Int32) (fun r3 u3 =>
    (¬ (r3 = 0) →
    wpX11_signs_b18 u3.1 u3.2 K) ∧
  ((r3 = 0) →
    wpX11_isKey u3.1 u3.2 (21 : Int32) (fun r12 u12 =>
      ((r12 = 0) →
      wpX11_isSign u12.1 u12.2 (41 : Int32) (fun r86 u86 =>
        ((r86 = 0) →
        wpX11_signs_b99 u86.1 u86.2 K) ∧
      (¬ (r86 = 0) →
        (¬ ((u86.1 35) = 0) →
          wpX11_bind u86.1 u86.2 (1 : Int32) (fun u107 =>
            wpX11_take (upd (upd u107.1 33 ((u107.1 33) - (1 : Int32))) 35 ((u107.1 35) - (1 : Int32))) u107.2  (fun u131 =>
            K (1 : Int32) (u131.1, u131.2)))) ∧
        (((u86.1 35) = 0) →
          wpX11_signs_b99 u86.1 u86.2 K)))) ∧
    (¬ (r12 = 0) →
      wpX11_signs_b18 u12.1 u12.2 K))))
def wpX11_signs (f : Nat → Int32) (g : Nat → Nat → Int32) (K : Int32 → ((Nat → Int32) × (Nat → Nat → Int32)) → Prop) : Prop := wpX11_signs_b0 f g K
def wpX11_partRead_b80 (f : Nat → Int32) (g : Nat → Nat → Int32) (K : Int32 → ((Nat → Int32) × (Nat → Nat → Int32)) → Prop) : Prop :=
  K (0 : Int32) (f, g)
def wpX11_partRead_b56 (B33 : (Nat → Int32) → (Nat → Nat → Int32) → Int32 → Prop) (f : Nat → Int32) (g : Nat → Nat → Int32) (x1 : Int32) (K : Int32 → ((Nat → Int32) × (Nat → Nat → Int32)) → Prop) : Prop :=
  (¬ ((f 37) = 0) →
    wpX11_signs f g  (fun r74 u74 =>
      (¬ (r74 = 0) →
      B33 u74.1 u74.2 x1) ∧
    ((r74 = 0) →
      wpX11_partRead_b80 u74.1 u74.2 K))) ∧
  (((f 37) = 0) →
    wpX11_leafRead f g  (fun r64 u64 =>
      ((r64 = 0) →
      wpX11_partRead_b80 u64.1 u64.2 K) ∧
    (¬ (r64 = 0) →
      B33 u64.1 u64.2 x1)))
def wpX11_partRead_b33_body (B33 : (Nat → Int32) → (Nat → Nat → Int32) → Int32 → Prop) (f : Nat → Int32) (g : Nat → Nat → Int32) (x1 : Int32) (K : Int32 → ((Nat → Int32) × (Nat → Nat → Int32)) → Prop) : Prop :=
  wpX11_isSign f g (59 : Int32) (fun r36 u36 =>
    ((r36 = 0) →
    wpX11_partRead_b56 B33 u36.1 u36.2 x1 K) ∧
  (¬ (r36 = 0) →
    (((u36.1 37) = 0) →
      wpX11_partRead_b56 B33 u36.1 u36.2 x1 K) ∧
    (¬ ((u36.1 37) = 0) →
      (((u36.1 35) ≤ 0) →
        wpX11_bind u36.1 u36.2 (1 : Int32) (fun u84 =>
          vp_in ((24 : Int32) + x1) 48 ∧ wpX11_take u84.1 (pt u84.2 26 (ix ((24 : Int32) + x1)) (u84.1 23))  (fun u101 =>
          K (1 : Int32) (u101.1, u101.2)))) ∧
      (¬ ((u36.1 35) ≤ 0) →
        wpX11_partRead_b56 B33 u36.1 u36.2 x1 K))))
def wpX11_partRead_b33 (n_ : Nat) (f : Nat → Int32) (g : Nat → Nat → Int32) (x1 : Int32) (K : Int32 → ((Nat → Int32) × (Nat → Nat → Int32)) → Prop) : Prop := match n_ with
  | 0 => False
  | n + 1 => wpX11_partRead_b33_body (fun f g x1 => wpX11_partRead_b33 n f g x1 K) f g x1 K
def wpX11_partRead_b0 (f : Nat → Int32) (g : Nat → Nat → Int32) (x1 : Int32) (K : Int32 → ((Nat → Int32) × (Nat → Nat → Int32)) → Prop) : Prop :=
  vp_in ((24 : Int32) + x1) 48 ∧ ∃ n, wpX11_partRead_b33 n (upd (upd (upd (upd f 33 (0 : Int32)) 34 (0 : Int32)) 35 (0 : Int32)) 37 (0 : Int32)) (pt g 25 (ix ((24 : Int32) + x1)) (f 23)) x1 K
def wpX11_partRead (f : Nat → Int32) (g : Nat → Nat → Int32) (x1 : Int32) (K : Int32 → ((Nat → Int32) × (Nat → Nat → Int32)) → Prop) : Prop := wpX11_partRead_b0 f g x1 K
def wpX11_relayRead_b2_body (B2 : (Nat → Int32) → (Nat → Nat → Int32) → Int32 → Int32 → Prop) (f : Nat → Int32) (g : Nat → Nat → Int32) (x1 : Int32) (x2 : Int32) (K : Int32 → ((Nat → Int32) × (Nat → Nat → Int32)) → Prop) : Prop :=
  (((f 21) ≤ x2) →
    K (-1 : Int32) (f, g)) ∧
  (¬ ((f 21) ≤ x2) →
    vp_in ((20 : Int32) + x2) 40 ∧ (¬ ((g 24 (ix ((20 : Int32) + x2))) = x1) →
      B2 f g x1 (x2 + (1 : Int32))) ∧
    (((g 24 (ix ((20 : Int32) + x2))) = x1) →
      K x2 (f, g)))
def wpX11_relayRead_b2 (n_ : Nat) (f : Nat → Int32) (g : Nat → Nat → Int32) (x1 : Int32) (x2 : Int32) (K : Int32 → ((Nat → Int32) × (Nat → Nat → Int32)) → Prop) : Prop := match n_ with
  | 0 => False
  | n + 1 => wpX11_relayRead_b2_body (fun f g x1 x2 => wpX11_relayRead_b2 n f g x1 x2 K) f g x1 x2 K
def wpX11_relayRead_b0 (f : Nat → Int32) (g : Nat → Nat → Int32) (x1 : Int32) (K : Int32 → ((Nat → Int32) × (Nat → Nat → Int32)) → Prop) : Prop :=
  ∃ n, wpX11_relayRead_b2 n f g x1 (0 : Int32) K
def wpX11_relayRead (f : Nat → Int32) (g : Nat → Nat → Int32) (x1 : Int32) (K : Int32 → ((Nat → Int32) × (Nat → Nat → Int32)) → Prop) : Prop := wpX11_relayRead_b0 f g x1 K
def wpX11_netLine_b221 (f : Nat → Int32) (g : Nat → Nat → Int32) (k0 : Int32) (K : Int32 → ((Nat → Int32) × (Nat → Nat → Int32)) → Prop) : Prop :=
  isB k0 ∧ K k0 (f, g)
def wpX11_netLine_b220 (f : Nat → Int32) (g : Nat → Nat → Int32) (K : Int32 → ((Nat → Int32) × (Nat → Nat → Int32)) → Prop) : Prop :=
  wpX11_netLine_b221 f g (0 : Int32) K
def wpX11_netLine_b195 (f : Nat → Int32) (g : Nat → Nat → Int32) (x1 : Int32) (K : Int32 → ((Nat → Int32) × (Nat → Nat → Int32)) → Prop) : Prop :=
  wpX11_take f g  (fun u196 =>
    wpX11_signRead u196.1 u196.2 (61 : Int32) (fun r202 u202 =>
    ((r202 = 0) →
    wpX11_netLine_b220 u202.1 u202.2 K) ∧
  (¬ (r202 = 0) →
    wpX11_partRead u202.1 u202.2 x1 (fun r210 u210 =>
      ((r210 = 0) →
      wpX11_netLine_b220 u210.1 u210.2 K) ∧
    (¬ (r210 = 0) →
      wpX11_netLine_b221 u210.1 u210.2 (1 : Int32) K)))))
def wpX11_netLine_b170 (f : Nat → Int32) (g : Nat → Nat → Int32) (k0 : Int32) (K : Int32 → ((Nat → Int32) × (Nat → Nat → Int32)) → Prop) : Prop :=
  vp_in ((24 : Int32) + k0) 48 ∧ (((g 26 (ix ((24 : Int32) + k0))) ≤ 0) →
    wpX11_netLine_b195 f g k0 K) ∧
  (¬ ((g 26 (ix ((24 : Int32) + k0))) ≤ 0) →
    wpX11_wrong f g (3 : Int32) (fun r185 u185 =>
      isB r185 ∧ K r185 (u185.1, u185.2)))
def wpX11_netLine_b126 (f : Nat → Int32) (g : Nat → Nat → Int32) (K : Int32 → ((Nat → Int32) × (Nat → Nat → Int32)) → Prop) : Prop :=
  (¬ ((f 9) = (14 : Int32)) →
    (¬ ((f 9) = (10 : Int32)) →
      (¬ ((f 9) = (9 : Int32)) →
        wpX11_netLine_b170 f g (23 : Int32) K) ∧
      (((f 9) = (9 : Int32)) →
        wpX11_netLine_b170 f g (22 : Int32) K)) ∧
    (((f 9) = (10 : Int32)) →
      wpX11_netLine_b170 f g (21 : Int32) K)) ∧
  (((f 9) = (14 : Int32)) →
    wpX11_netLine_b170 f g (20 : Int32) K)
def wpX11_netLine_b0 (f : Nat → Int32) (g : Nat → Nat → Int32) (K : Int32 → ((Nat → Int32) × (Nat → Nat → Int32)) → Prop) : Prop :=
  wpX11_isKey f g (20 : Int32) (fun r3 u3 =>
    ((r3 = 0) →
    wpX11_isKey u3.1 u3.2 (14 : Int32) (fun r93 u93 =>
      (¬ (r93 = 0) →
      wpX11_netLine_b126 u93.1 u93.2 K) ∧
    ((r93 = 0) →
      wpX11_isKey u93.1 u93.2 (10 : Int32) (fun r102 u102 =>
        (¬ (r102 = 0) →
        wpX11_netLine_b126 u102.1 u102.2 K) ∧
      ((r102 = 0) →
        wpX11_isKey u102.1 u102.2 (9 : Int32) (fun r111 u111 =>
          (¬ (r111 = 0) →
          wpX11_netLine_b126 u111.1 u111.2 K) ∧
        ((r111 = 0) →
          wpX11_isKey u111.1 u111.2 (13 : Int32) (fun r120 u120 =>
            ((r120 = 0) →
            wpX11_wrong u120.1 u120.2 (1 : Int32) (fun r191 u191 =>
              isB r191 ∧ K r191 (u191.1, u191.2))) ∧
          (¬ (r120 = 0) →
            wpX11_netLine_b126 u120.1 u120.2 K))))))))) ∧
  (¬ (r3 = 0) →
    (¬ ((u3.1 21) = (20 : Int32)) →
      wpX11_take u3.1 u3.2  (fun u25 =>
        (((u25.1 8) = (2 : Int32)) →
        wpX11_relayRead u25.1 u25.2 (u25.1 9) (fun r47 u47 =>
          ((r47 < 0) →
          vp_in ((20 : Int32) + (u47.1 21)) 40 ∧ wpX11_netLine_b195 (upd u47.1 21 ((u47.1 21) + (1 : Int32))) (pt u47.2 24 (ix ((20 : Int32) + (u47.1 21))) (u47.1 9)) (u47.1 21) K) ∧
        (¬ (r47 < 0) →
          wpX11_wrong u47.1 u47.2 (3 : Int32) (fun r55 u55 =>
            isB r55 ∧ K r55 (u55.1, u55.2))))) ∧
      (¬ ((u25.1 8) = (2 : Int32)) →
        wpX11_wrong u25.1 u25.2 (1 : Int32) (fun r38 u38 =>
          isB r38 ∧ K r38 (u38.1, u38.2))))) ∧
    (((u3.1 21) = (20 : Int32)) →
      wpX11_wrong u3.1 u3.2 (2 : Int32) (fun r20 u20 =>
        isB r20 ∧ K r20 (u20.1, u20.2)))))
def wpX11_netLine (f : Nat → Int32) (g : Nat → Nat → Int32) (K : Int32 → ((Nat → Int32) × (Nat → Nat → Int32)) → Prop) : Prop := wpX11_netLine_b0 f g K
def wpX11_forgets_b0 (f : Nat → Int32) (g : Nat → Nat → Int32) (K : ((Nat → Int32) × (Nat → Nat → Int32)) → Prop) : Prop :=
  K (upd f 66 (0 : Int32), g)
def wpX11_forgets (f : Nat → Int32) (g : Nat → Nat → Int32) (K : ((Nat → Int32) × (Nat → Nat → Int32)) → Prop) : Prop := wpX11_forgets_b0 f g K
def wpX11_net_b296_body (B296 : (Nat → Int32) → (Nat → Nat → Int32) → Int32 → Prop) (f : Nat → Int32) (g : Nat → Nat → Int32) (x2 : Int32) (K : Int32 → ((Nat → Int32) × (Nat → Nat → Int32)) → Prop) : Prop :=
  (((4 : Int32) ≤ x2) →
    K (f 20) (f, g)) ∧
  (¬ ((4 : Int32) ≤ x2) →
    vp_in x2 4 ∧ B296 f (pt g 56 (ix x2) (vp_nar .boolean (0 : Int32))) (x2 + (1 : Int32)))
def wpX11_net_b296 (n_ : Nat) (f : Nat → Int32) (g : Nat → Nat → Int32) (x2 : Int32) (K : Int32 → ((Nat → Int32) × (Nat → Nat → Int32)) → Prop) : Prop := match n_ with
  | 0 => False
  | n + 1 => wpX11_net_b296_body (fun f g x2 => wpX11_net_b296 n f g x2 K) f g x2 K
def wpX11_net_b233_body (B233 : (Nat → Int32) → (Nat → Nat → Int32) → Int32 → Prop) (f : Nat → Int32) (g : Nat → Nat → Int32) (x2 : Int32) (K : Int32 → ((Nat → Int32) × (Nat → Nat → Int32)) → Prop) : Prop :=
  (((24 : Int32) ≤ x2) →
    wpX11_forgets (upd (upd (upd f 45 (0 : Int32)) 49 (0 : Int32)) 50 (0 : Int32)) g  (fun u291 =>
      ∃ n, wpX11_net_b296 n u291.1 u291.2 (0 : Int32) K)) ∧
  (¬ ((24 : Int32) ≤ x2) →
    vp_in ((24 : Int32) + x2) 48 ∧ vp_in x2 48 ∧ vp_in ((24 : Int32) + x2) 48 ∧ vp_in x2 48 ∧ B233 f (pt (pt g 25 (ix x2) (g 25 (ix ((24 : Int32) + x2)))) 26 (ix x2) (g 26 (ix ((24 : Int32) + x2)))) (x2 + (1 : Int32)))
def wpX11_net_b233 (n_ : Nat) (f : Nat → Int32) (g : Nat → Nat → Int32) (x2 : Int32) (K : Int32 → ((Nat → Int32) × (Nat → Nat → Int32)) → Prop) : Prop := match n_ with
  | 0 => False
  | n + 1 => wpX11_net_b233_body (fun f g x2 => wpX11_net_b233 n f g x2 K) f g x2 K
def wpX11_net_b174_body (B174 : (Nat → Int32) → (Nat → Nat → Int32) → Int32 → Prop) (f : Nat → Int32) (g : Nat → Nat → Int32) (x2 : Int32) (K : Int32 → ((Nat → Int32) × (Nat → Nat → Int32)) → Prop) : Prop :=
  (((64 : Int32) ≤ x2) →
    ∃ n, wpX11_net_b233 n f g (0 : Int32) K) ∧
  (¬ ((64 : Int32) ≤ x2) →
    vp_in ((64 : Int32) + x2) 128 ∧ vp_in x2 128 ∧ vp_in ((64 : Int32) + x2) 128 ∧ vp_in x2 128 ∧ vp_in ((64 : Int32) + x2) 128 ∧ vp_in x2 128 ∧ B174 f (pt (pt (pt g 27 (ix x2) (g 27 (ix ((64 : Int32) + x2)))) 28 (ix x2) (g 28 (ix ((64 : Int32) + x2)))) 29 (ix x2) (g 29 (ix ((64 : Int32) + x2)))) (x2 + (1 : Int32)))
def wpX11_net_b174 (n_ : Nat) (f : Nat → Int32) (g : Nat → Nat → Int32) (x2 : Int32) (K : Int32 → ((Nat → Int32) × (Nat → Nat → Int32)) → Prop) : Prop := match n_ with
  | 0 => False
  | n + 1 => wpX11_net_b174_body (fun f g x2 => wpX11_net_b174 n f g x2 K) f g x2 K
def wpX11_net_b150 (B85 : (Nat → Int32) → (Nat → Nat → Int32) → Int32 → Prop) (f : Nat → Int32) (g : Nat → Nat → Int32) (x2 : Int32) (K : Int32 → ((Nat → Int32) × (Nat → Nat → Int32)) → Prop) : Prop :=
  B85 f g (x2 + (1 : Int32))
def wpX11_net_b85_body (B85 : (Nat → Int32) → (Nat → Nat → Int32) → Int32 → Prop) (f : Nat → Int32) (g : Nat → Nat → Int32) (x2 : Int32) (K : Int32 → ((Nat → Int32) × (Nat → Nat → Int32)) → Prop) : Prop :=
  ((((64 : Int32) + (f 23)) ≤ x2) →
    ∃ n, wpX11_net_b174 n (upd (upd f 20 (f 21)) 22 (f 23)) g (0 : Int32) K) ∧
  (¬ (((64 : Int32) + (f 23)) ≤ x2) →
    vp_in x2 128 ∧ (((g 27 (ix x2)) = (4 : Int32)) →
      vp_in x2 128 ∧ wpX11_relayRead f g (g 28 (ix x2)) (fun r116 u116 =>
        ((0 ≤ r116) →
        vp_in x2 128 ∧ wpX11_net_b150 B85 u116.1 (pt u116.2 28 (ix x2) r116) x2 K) ∧
      (¬ (0 ≤ r116) →
        vp_in x2 128 ∧ wpX11_wrong (upd u116.1 10 (u116.2 30 (ix x2))) u116.2 (4 : Int32) (fun r136 u136 =>
          K (-1 : Int32) (u136.1, u136.2))))) ∧
    (¬ ((g 27 (ix x2)) = (4 : Int32)) →
      wpX11_net_b150 B85 f g x2 K))
def wpX11_net_b85 (n_ : Nat) (f : Nat → Int32) (g : Nat → Nat → Int32) (x2 : Int32) (K : Int32 → ((Nat → Int32) × (Nat → Nat → Int32)) → Prop) : Prop := match n_ with
  | 0 => False
  | n + 1 => wpX11_net_b85_body (fun f g x2 => wpX11_net_b85 n f g x2 K) f g x2 K
def wpX11_net_b66_body (B66 : (Nat → Int32) → (Nat → Nat → Int32) → Prop) (f : Nat → Int32) (g : Nat → Nat → Int32) (K : Int32 → ((Nat → Int32) × (Nat → Nat → Int32)) → Prop) : Prop :=
  (((f 8) = 0) →
    ∃ n, wpX11_net_b85 n f g (64 : Int32) K) ∧
  (¬ ((f 8) = 0) →
    wpX11_netLine f g  (fun r74 u74 =>
      (¬ (r74 = 0) →
      B66 u74.1 u74.2) ∧
    ((r74 = 0) →
      K (-1 : Int32) (u74.1, u74.2))))
def wpX11_net_b66 (n_ : Nat) (f : Nat → Int32) (g : Nat → Nat → Int32) (K : Int32 → ((Nat → Int32) × (Nat → Nat → Int32)) → Prop) : Prop := match n_ with
  | 0 => False
  | n + 1 => wpX11_net_b66_body (fun f g => wpX11_net_b66 n f g K) f g K
def wpX11_net_b34_body (B34 : (Nat → Int32) → (Nat → Nat → Int32) → Int32 → Prop) (f : Nat → Int32) (g : Nat → Nat → Int32) (x2 : Int32) (K : Int32 → ((Nat → Int32) × (Nat → Nat → Int32)) → Prop) : Prop :=
  (((24 : Int32) ≤ x2) →
    ∃ n, wpX11_net_b66 n f g K) ∧
  (¬ ((24 : Int32) ≤ x2) →
    vp_in ((24 : Int32) + x2) 48 ∧ vp_in ((24 : Int32) + x2) 48 ∧ B34 f (pt (pt g 25 (ix ((24 : Int32) + x2)) (0 : Int32)) 26 (ix ((24 : Int32) + x2)) (0 : Int32)) (x2 + (1 : Int32)))
def wpX11_net_b34 (n_ : Nat) (f : Nat → Int32) (g : Nat → Nat → Int32) (x2 : Int32) (K : Int32 → ((Nat → Int32) × (Nat → Nat → Int32)) → Prop) : Prop := match n_ with
  | 0 => False
  | n + 1 => wpX11_net_b34_body (fun f g x2 => wpX11_net_b34 n f g x2 K) f g x2 K
def wpX11_net_b0 (f : Nat → Int32) (g : Nat → Nat → Int32) (x1 : Int32) (K : Int32 → ((Nat → Int32) × (Nat → Nat → Int32)) → Prop) : Prop :=
  wpX11_starts (upd f 2 (0 : Int32)) g x1 (1 : Int32) (fun r8 u8 =>
    (¬ (r8 = 0) →
    ∃ n, wpX11_net_b34 n (upd (upd (upd u8.1 21 (0 : Int32)) 23 (0 : Int32)) 36 (0 : Int32)) u8.2 (0 : Int32) K) ∧
  ((r8 = 0) →
    K (-2 : Int32) (u8.1, u8.2)))
def wpX11_net (f : Nat → Int32) (g : Nat → Nat → Int32) (x1 : Int32) (K : Int32 → ((Nat → Int32) × (Nat → Nat → Int32)) → Prop) : Prop := wpX11_net_b0 f g x1 K
def wpX11_squares_b0 (f : Nat → Int32) (g : Nat → Nat → Int32) (K : Int32 → ((Nat → Int32) × (Nat → Nat → Int32)) → Prop) : Prop :=
  K ((f 38) * (f 39)) (f, g)
def wpX11_squares (f : Nat → Int32) (g : Nat → Nat → Int32) (K : Int32 → ((Nat → Int32) × (Nat → Nat → Int32)) → Prop) : Prop := wpX11_squares_b0 f g K
def wpX11_isSquare_b17 (f : Nat → Int32) (g : Nat → Nat → Int32) (k0 : Int32) (K : Int32 → ((Nat → Int32) × (Nat → Nat → Int32)) → Prop) : Prop :=
  isB k0 ∧ K k0 (f, g)
def wpX11_isSquare_b16 (f : Nat → Int32) (g : Nat → Nat → Int32) (K : Int32 → ((Nat → Int32) × (Nat → Nat → Int32)) → Prop) : Prop :=
  wpX11_isSquare_b17 f g (0 : Int32) K
def wpX11_isSquare_b0 (f : Nat → Int32) (g : Nat → Nat → Int32) (x1 : Int32) (K : Int32 → ((Nat → Int32) × (Nat → Nat → Int32)) → Prop) : Prop :=
  ((x1 < 0) →
    wpX11_isSquare_b16 f g K) ∧
  (¬ (x1 < 0) →
    wpX11_squares f g  (fun r6 u6 =>
      ((r6 ≤ x1) →
      wpX11_isSquare_b16 u6.1 u6.2 K) ∧
    (¬ (r6 ≤ x1) →
      wpX11_isSquare_b17 u6.1 u6.2 (1 : Int32) K)))
def wpX11_isSquare (f : Nat → Int32) (g : Nat → Nat → Int32) (x1 : Int32) (K : Int32 → ((Nat → Int32) × (Nat → Nat → Int32)) → Prop) : Prop := wpX11_isSquare_b0 f g x1 K
def wpX11_plainWalls_b83 (B2 : (Nat → Int32) → (Nat → Nat → Int32) → Int32 → Prop) (f : Nat → Int32) (g : Nat → Nat → Int32) (k1 : Int32) (k2 : Int32) (k3 : Int32) (x1 : Int32) (K : ((Nat → Int32) × (Nat → Nat → Int32)) → Prop) : Prop :=
  vp_in k1 36 ∧ B2 f (pt g 46 (ix k1) (k2 ||| k3)) (x1 + (1 : Int32))
def wpX11_plainWalls_b67 (B2 : (Nat → Int32) → (Nat → Nat → Int32) → Int32 → Prop) (f : Nat → Int32) (g : Nat → Nat → Int32) (k1 : Int32) (k2 : Int32) (k3 : Int32) (x1 : Int32) (K : ((Nat → Int32) × (Nat → Nat → Int32)) → Prop) : Prop :=
  (¬ f 38 = 0) ∧ (¬ ((jrem x1 (f 38)) = 0) →
    wpX11_plainWalls_b83 B2 f g k1 (k2 ||| k3) (0 : Int32) x1 K) ∧
  (((jrem x1 (f 38)) = 0) →
    wpX11_plainWalls_b83 B2 f g k1 (k2 ||| k3) (8 : Int32) x1 K)
def wpX11_plainWalls_b48 (B2 : (Nat → Int32) → (Nat → Nat → Int32) → Int32 → Prop) (f : Nat → Int32) (g : Nat → Nat → Int32) (k1 : Int32) (k2 : Int32) (k3 : Int32) (x1 : Int32) (K : ((Nat → Int32) × (Nat → Nat → Int32)) → Prop) : Prop :=
  wpX11_squares f g  (fun r51 u51 =>
    ((x1 < (r51 - (u51.1 38))) →
    wpX11_plainWalls_b67 B2 u51.1 u51.2 k1 (k2 ||| k3) (0 : Int32) x1 K) ∧
  (¬ (x1 < (r51 - (u51.1 38))) →
    wpX11_plainWalls_b67 B2 u51.1 u51.2 k1 (k2 ||| k3) (4 : Int32) x1 K))
def wpX11_plainWalls_b28 (B2 : (Nat → Int32) → (Nat → Nat → Int32) → Int32 → Prop) (f : Nat → Int32) (g : Nat → Nat → Int32) (k1 : Int32) (k2 : Int32) (x1 : Int32) (K : ((Nat → Int32) × (Nat → Nat → Int32)) → Prop) : Prop :=
  (¬ f 38 = 0) ∧ (¬ ((jrem x1 (f 38)) = ((f 38) - (1 : Int32))) →
    wpX11_plainWalls_b48 B2 f g k1 k2 (0 : Int32) x1 K) ∧
  (((jrem x1 (f 38)) = ((f 38) - (1 : Int32))) →
    wpX11_plainWalls_b48 B2 f g k1 k2 (2 : Int32) x1 K)
def wpX11_plainWalls_b2_body (B2 : (Nat → Int32) → (Nat → Nat → Int32) → Int32 → Prop) (f : Nat → Int32) (g : Nat → Nat → Int32) (x1 : Int32) (K : ((Nat → Int32) × (Nat → Nat → Int32)) → Prop) : Prop :=
  wpX11_squares f g  (fun r4 u4 =>
    ((r4 ≤ x1) →
    K (u4.1, u4.2)) ∧
  (¬ (r4 ≤ x1) →
    (((u4.1 38) ≤ x1) →
      wpX11_plainWalls_b28 B2 u4.1 u4.2 x1 (0 : Int32) x1 K) ∧
    (¬ ((u4.1 38) ≤ x1) →
      wpX11_plainWalls_b28 B2 u4.1 u4.2 x1 (1 : Int32) x1 K)))
def wpX11_plainWalls_b2 (n_ : Nat) (f : Nat → Int32) (g : Nat → Nat → Int32) (x1 : Int32) (K : ((Nat → Int32) × (Nat → Nat → Int32)) → Prop) : Prop := match n_ with
  | 0 => False
  | n + 1 => wpX11_plainWalls_b2_body (fun f g x1 => wpX11_plainWalls_b2 n f g x1 K) f g x1 K
def wpX11_plainWalls_b0 (f : Nat → Int32) (g : Nat → Nat → Int32) (K : ((Nat → Int32) × (Nat → Nat → Int32)) → Prop) : Prop :=
  ∃ n, wpX11_plainWalls_b2 n f g (0 : Int32) K
def wpX11_plainWalls (f : Nat → Int32) (g : Nat → Nat → Int32) (K : ((Nat → Int32) × (Nat → Nat → Int32)) → Prop) : Prop := wpX11_plainWalls_b0 f g K
def wpX11_begins_b95_body (B95 : (Nat → Int32) → (Nat → Nat → Int32) → Int32 → Prop) (f : Nat → Int32) (g : Nat → Nat → Int32) (x3 : Int32) (K : ((Nat → Int32) × (Nat → Nat → Int32)) → Prop) : Prop :=
  (((4 : Int32) ≤ x3) →
    K (f, g)) ∧
  (¬ ((4 : Int32) ≤ x3) →
    vp_in x3 4 ∧ B95 f (pt g 56 (ix x3) (vp_nar .boolean (0 : Int32))) (x3 + (1 : Int32)))
def wpX11_begins_b95 (n_ : Nat) (f : Nat → Int32) (g : Nat → Nat → Int32) (x3 : Int32) (K : ((Nat → Int32) × (Nat → Nat → Int32)) → Prop) : Prop := match n_ with
  | 0 => False
  | n + 1 => wpX11_begins_b95_body (fun f g x3 => wpX11_begins_b95 n f g x3 K) f g x3 K
def wpX11_begins_b58_body (B58 : (Nat → Int32) → (Nat → Nat → Int32) → Int32 → Prop) (f : Nat → Int32) (g : Nat → Nat → Int32) (x3 : Int32) (K : ((Nat → Int32) × (Nat → Nat → Int32)) → Prop) : Prop :=
  (((36 : Int32) ≤ x3) →
    wpX11_forgets (upd f 51 (-1 : Int32)) g  (fun u90 =>
      ∃ n, wpX11_begins_b95 n u90.1 u90.2 (0 : Int32) K)) ∧
  (¬ ((36 : Int32) ≤ x3) →
    vp_in x3 36 ∧ vp_in x3 36 ∧ B58 f (pt (pt g 47 (ix x3) (0 : Int32)) 48 (ix x3) (0 : Int32)) (x3 + (1 : Int32)))
def wpX11_begins_b58 (n_ : Nat) (f : Nat → Int32) (g : Nat → Nat → Int32) (x3 : Int32) (K : ((Nat → Int32) × (Nat → Nat → Int32)) → Prop) : Prop := match n_ with
  | 0 => False
  | n + 1 => wpX11_begins_b58_body (fun f g x3 => wpX11_begins_b58 n f g x3 K) f g x3 K
def wpX11_begins_b0 (f : Nat → Int32) (g : Nat → Nat → Int32) (x1 : Int32) (x2 : Int32) (K : ((Nat → Int32) × (Nat → Nat → Int32)) → Prop) : Prop :=
  wpX11_plainWalls (upd (upd (upd (upd (upd (upd (upd (upd f 38 x1) 39 x2) 40 ((x1 * x2) - (1 : Int32))) 41 (0 : Int32)) 42 (0 : Int32)) 43 (0 : Int32)) 44 (0 : Int32)) 45 ((f 49) &&& (f 50))) g  (fun u53 =>
    ∃ n, wpX11_begins_b58 n u53.1 u53.2 (0 : Int32) K)
def wpX11_begins (f : Nat → Int32) (g : Nat → Nat → Int32) (x1 : Int32) (x2 : Int32) (K : ((Nat → Int32) × (Nat → Nat → Int32)) → Prop) : Prop := wpX11_begins_b0 f g x1 x2 K
def wpX11_ahead_b41 (f : Nat → Int32) (g : Nat → Nat → Int32) (k0 : Int32) (K : Int32 → ((Nat → Int32) × (Nat → Nat → Int32)) → Prop) : Prop :=
  K k0 (f, g)
def wpX11_ahead_b0 (f : Nat → Int32) (g : Nat → Nat → Int32) (x1 : Int32) (x2 : Int32) (K : Int32 → ((Nat → Int32) × (Nat → Nat → Int32)) → Prop) : Prop :=
  (¬ (x2 = 0) →
    (¬ (x2 = (1 : Int32)) →
      (¬ (x2 = (2 : Int32)) →
        wpX11_ahead_b41 f g (x1 - (1 : Int32)) K) ∧
      ((x2 = (2 : Int32)) →
        wpX11_ahead_b41 f g (x1 + (f 38)) K)) ∧
    ((x2 = (1 : Int32)) →
      wpX11_ahead_b41 f g (x1 + (1 : Int32)) K)) ∧
  ((x2 = 0) →
    wpX11_ahead_b41 f g (x1 - (f 38)) K)
def wpX11_ahead (f : Nat → Int32) (g : Nat → Nat → Int32) (x1 : Int32) (x2 : Int32) (K : Int32 → ((Nat → Int32) × (Nat → Nat → Int32)) → Prop) : Prop := wpX11_ahead_b0 f g x1 x2 K
def wpX11_isWall_b0 (f : Nat → Int32) (g : Nat → Nat → Int32) (x1 : Int32) (x2 : Int32) (K : Int32 → ((Nat → Int32) × (Nat → Nat → Int32)) → Prop) : Prop :=
  vp_in x1 36 ∧ wpX11_isOf (g 46 (ix x1)) x2 (fun r7 u7 =>
    isB r7 ∧ K r7 (f, g))
def wpX11_isWall (f : Nat → Int32) (g : Nat → Nat → Int32) (x1 : Int32) (x2 : Int32) (K : Int32 → ((Nat → Int32) × (Nat → Nat → Int32)) → Prop) : Prop := wpX11_isWall_b0 f g x1 x2 K
def wpX11_putWall_b89 (f : Nat → Int32) (g : Nat → Nat → Int32) (k1 : Int32) (k2 : Int32) (K : ((Nat → Int32) × (Nat → Nat → Int32)) → Prop) : Prop :=
  vp_in k1 36 ∧ K (f, pt g 46 (ix k1) k2)
def wpX11_putWall_b49 (f : Nat → Int32) (g : Nat → Nat → Int32) (k1 : Int32) (k2 : Int32) (x3 : Int32) (x4 : Int32) (x5 : Int32) (K : ((Nat → Int32) × (Nat → Nat → Int32)) → Prop) : Prop :=
  vp_in k1 36 ∧ ((x3 = 0) →
    vp_in x4 36 ∧ wpX11_putWall_b89 f (pt g 46 (ix k1) k2) x4 (((pt g 46 (ix k1) k2) 46 (ix x4)) &&& ((jshl (1 : Int32) x5) ^^^ (-1 : Int32))) K) ∧
  (¬ (x3 = 0) →
    vp_in x4 36 ∧ wpX11_putWall_b89 f (pt g 46 (ix k1) k2) x4 (((pt g 46 (ix k1) k2) 46 (ix x4)) ||| (jshl (1 : Int32) x5)) K)
def wpX11_putWall_b0 (f : Nat → Int32) (g : Nat → Nat → Int32) (x1 : Int32) (x2 : Int32) (x3 : Int32) (K : ((Nat → Int32) × (Nat → Nat → Int32)) → Prop) : Prop :=
  wpX11_ahead f g x1 x2 (fun r3 u3 =>
    ((x3 = 0) →
    vp_in x1 36 ∧ wpX11_putWall_b49 u3.1 u3.2 x1 ((u3.2 46 (ix x1)) &&& ((jshl (1 : Int32) x2) ^^^ (-1 : Int32))) x3 r3 (jrem (x2 + (2 : Int32)) (4 : Int32)) K) ∧
  (¬ (x3 = 0) →
    vp_in x1 36 ∧ wpX11_putWall_b49 u3.1 u3.2 x1 ((u3.2 46 (ix x1)) ||| (jshl (1 : Int32) x2)) x3 r3 (jrem (x2 + (2 : Int32)) (4 : Int32)) K))
def wpX11_putWall (f : Nat → Int32) (g : Nat → Nat → Int32) (x1 : Int32) (x2 : Int32) (x3 : Int32) (K : ((Nat → Int32) × (Nat → Nat → Int32)) → Prop) : Prop := wpX11_putWall_b0 f g x1 x2 x3 K
def wpX11_floor_b25 (f : Nat → Int32) (g : Nat → Nat → Int32) (K : Int32 → ((Nat → Int32) × (Nat → Nat → Int32)) → Prop) : Prop :=
  K (0 : Int32) (f, g)
def wpX11_floor_b0 (f : Nat → Int32) (g : Nat → Nat → Int32) (x1 : Int32) (x2 : Int32) (K : Int32 → ((Nat → Int32) × (Nat → Nat → Int32)) → Prop) : Prop :=
  wpX11_isIn x1 (2 : Int32) (6 : Int32) (fun r9 u9 =>
    ((r9 = 0) →
    wpX11_floor_b25 (upd f 2 (0 : Int32)) g K) ∧
  (¬ (r9 = 0) →
    wpX11_isIn x2 (2 : Int32) (6 : Int32) (fun r19 u19 =>
      (¬ (r19 = 0) →
      wpX11_begins (upd f 2 (0 : Int32)) g x1 x2 (fun u30 =>
        K (1 : Int32) (u30.1, u30.2))) ∧
    ((r19 = 0) →
      wpX11_floor_b25 (upd f 2 (0 : Int32)) g K))))
def wpX11_floor (f : Nat → Int32) (g : Nat → Nat → Int32) (x1 : Int32) (x2 : Int32) (K : Int32 → ((Nat → Int32) × (Nat → Nat → Int32)) → Prop) : Prop := wpX11_floor_b0 f g x1 x2 K
def wpX11_isAround_b88 (f : Nat → Int32) (g : Nat → Nat → Int32) (k0 : Int32) (K : Int32 → ((Nat → Int32) × (Nat → Nat → Int32)) → Prop) : Prop :=
  isB k0 ∧ K k0 (f, g)
def wpX11_isAround_b0 (f : Nat → Int32) (g : Nat → Nat → Int32) (x1 : Int32) (x2 : Int32) (K : Int32 → ((Nat → Int32) × (Nat → Nat → Int32)) → Prop) : Prop :=
  (¬ (x2 = 0) →
    (¬ (x2 = (1 : Int32)) →
      (¬ (x2 = (2 : Int32)) →
        (¬ f 38 = 0) ∧ (¬ ((jrem x1 (f 38)) = 0) →
          wpX11_isAround_b88 f g (0 : Int32) K) ∧
        (((jrem x1 (f 38)) = 0) →
          wpX11_isAround_b88 f g (1 : Int32) K)) ∧
      ((x2 = (2 : Int32)) →
        wpX11_squares f g  (fun r55 u55 =>
          ((x1 < (r55 - (u55.1 38))) →
          wpX11_isAround_b88 u55.1 u55.2 (0 : Int32) K) ∧
        (¬ (x1 < (r55 - (u55.1 38))) →
          wpX11_isAround_b88 u55.1 u55.2 (1 : Int32) K)))) ∧
    ((x2 = (1 : Int32)) →
      (¬ f 38 = 0) ∧ (¬ ((jrem x1 (f 38)) = ((f 38) - (1 : Int32))) →
        wpX11_isAround_b88 f g (0 : Int32) K) ∧
      (((jrem x1 (f 38)) = ((f 38) - (1 : Int32))) →
        wpX11_isAround_b88 f g (1 : Int32) K))) ∧
  ((x2 = 0) →
    (((f 38) ≤ x1) →
      wpX11_isAround_b88 f g (0 : Int32) K) ∧
    (¬ ((f 38) ≤ x1) →
      wpX11_isAround_b88 f g (1 : Int32) K))
def wpX11_isAround (f : Nat → Int32) (g : Nat → Nat → Int32) (x1 : Int32) (x2 : Int32) (K : Int32 → ((Nat → Int32) × (Nat → Nat → Int32)) → Prop) : Prop := wpX11_isAround_b0 f g x1 x2 K
def wpX11_wall_b41 (f : Nat → Int32) (g : Nat → Nat → Int32) (K : Int32 → ((Nat → Int32) × (Nat → Nat → Int32)) → Prop) : Prop :=
  K (0 : Int32) (f, g)
def wpX11_wall_b0 (f : Nat → Int32) (g : Nat → Nat → Int32) (x1 : Int32) (x2 : Int32) (x3 : Int32) (K : Int32 → ((Nat → Int32) × (Nat → Nat → Int32)) → Prop) : Prop :=
  wpX11_isSquare (upd f 2 (0 : Int32)) g x1 (fun r7 u7 =>
    ((r7 = 0) →
    wpX11_wall_b41 u7.1 u7.2 K) ∧
  (¬ (r7 = 0) →
    wpX11_isIn x2 (0 : Int32) (3 : Int32) (fun r16 u16 =>
      ((r16 = 0) →
      wpX11_wall_b41 u7.1 u7.2 K) ∧
    (¬ (r16 = 0) →
      wpX11_isAround u7.1 u7.2 x1 x2 (fun r25 u25 =>
        (¬ (r25 = 0) →
        wpX11_wall_b41 u25.1 u25.2 K) ∧
      ((r25 = 0) →
        wpX11_isWall u25.1 u25.2 x1 x2 (fun r34 u34 =>
          (¬ (r34 = x3) →
          wpX11_putWall u34.1 u34.2 x1 x2 x3 (fun u47 =>
            K (1 : Int32) (u47.1, u47.2))) ∧
        ((r34 = x3) →
          wpX11_wall_b41 u34.1 u34.2 K))))))))
def wpX11_wall (f : Nat → Int32) (g : Nat → Nat → Int32) (x1 : Int32) (x2 : Int32) (x3 : Int32) (K : Int32 → ((Nat → Int32) × (Nat → Nat → Int32)) → Prop) : Prop := wpX11_wall_b0 f g x1 x2 x3 K
def wpX11_bell_b0 (f : Nat → Int32) (g : Nat → Nat → Int32) (x1 : Int32) (K : Int32 → ((Nat → Int32) × (Nat → Nat → Int32)) → Prop) : Prop :=
  wpX11_isSquare (upd f 2 (0 : Int32)) g x1 (fun r7 u7 =>
    (¬ (r7 = 0) →
    K (1 : Int32) (upd u7.1 40 x1, u7.2)) ∧
  ((r7 = 0) →
    K (0 : Int32) (u7.1, u7.2)))
def wpX11_bell (f : Nat → Int32) (g : Nat → Nat → Int32) (x1 : Int32) (K : Int32 → ((Nat → Int32) × (Nat → Nat → Int32)) → Prop) : Prop := wpX11_bell_b0 f g x1 K
def wpX11_lift_b22 (f : Nat → Int32) (g : Nat → Nat → Int32) (K : Int32 → ((Nat → Int32) × (Nat → Nat → Int32)) → Prop) : Prop :=
  K (0 : Int32) (f, g)
def wpX11_lift_b0 (f : Nat → Int32) (g : Nat → Nat → Int32) (x1 : Int32) (x2 : Int32) (K : Int32 → ((Nat → Int32) × (Nat → Nat → Int32)) → Prop) : Prop :=
  wpX11_isSquare (upd f 2 (0 : Int32)) g x1 (fun r7 u7 =>
    ((r7 = 0) →
    wpX11_lift_b22 u7.1 u7.2 K) ∧
  (¬ (r7 = 0) →
    wpX11_isIn x2 (0 : Int32) (3 : Int32) (fun r16 u16 =>
      (¬ (r16 = 0) →
      K (1 : Int32) (upd (upd u7.1 41 x1) 42 x2, u7.2)) ∧
    ((r16 = 0) →
      wpX11_lift_b22 u7.1 u7.2 K))))
def wpX11_lift (f : Nat → Int32) (g : Nat → Nat → Int32) (x1 : Int32) (x2 : Int32) (K : Int32 → ((Nat → Int32) × (Nat → Nat → Int32)) → Prop) : Prop := wpX11_lift_b0 f g x1 x2 K
def wpX11_wipes_b2_body (B2 : (Nat → Int32) → (Nat → Nat → Int32) → Int32 → Prop) (f : Nat → Int32) (g : Nat → Nat → Int32) (x1 : Int32) (K : ((Nat → Int32) × (Nat → Nat → Int32)) → Prop) : Prop :=
  wpX11_squares f g  (fun r4 u4 =>
    ((r4 ≤ x1) →
    K (u4.1, u4.2)) ∧
  (¬ (r4 ≤ x1) →
    vp_in x1 36 ∧ vp_in x1 36 ∧ B2 u4.1 (pt (pt u4.2 47 (ix x1) (0 : Int32)) 48 (ix x1) (0 : Int32)) (x1 + (1 : Int32))))
def wpX11_wipes_b2 (n_ : Nat) (f : Nat → Int32) (g : Nat → Nat → Int32) (x1 : Int32) (K : ((Nat → Int32) × (Nat → Nat → Int32)) → Prop) : Prop := match n_ with
  | 0 => False
  | n + 1 => wpX11_wipes_b2_body (fun f g x1 => wpX11_wipes_b2 n f g x1 K) f g x1 K
def wpX11_wipes_b0 (f : Nat → Int32) (g : Nat → Nat → Int32) (K : ((Nat → Int32) × (Nat → Nat → Int32)) → Prop) : Prop :=
  ∃ n, wpX11_wipes_b2 n f g (0 : Int32) K
def wpX11_wipes (f : Nat → Int32) (g : Nat → Nat → Int32) (K : ((Nat → Int32) × (Nat → Nat → Int32)) → Prop) : Prop := wpX11_wipes_b0 f g K
def wpX11_wipe_b41 (B9 : (Nat → Int32) → (Nat → Nat → Int32) → Int32 → Int32 → Prop) (f : Nat → Int32) (g : Nat → Nat → Int32) (k0 : Int32) (k1 : Int32) (x2 : Int32) (K : Int32 → ((Nat → Int32) × (Nat → Nat → Int32)) → Prop) : Prop :=
  B9 f g (k0 + k1) (x2 + (1 : Int32))
def wpX11_wipe_b36 (B9 : (Nat → Int32) → (Nat → Nat → Int32) → Int32 → Int32 → Prop) (f : Nat → Int32) (g : Nat → Nat → Int32) (k0 : Int32) (x2 : Int32) (K : Int32 → ((Nat → Int32) × (Nat → Nat → Int32)) → Prop) : Prop :=
  wpX11_wipe_b41 B9 f g k0 (1 : Int32) x2 K
def wpX11_wipe_b9_body (B9 : (Nat → Int32) → (Nat → Nat → Int32) → Int32 → Int32 → Prop) (f : Nat → Int32) (g : Nat → Nat → Int32) (x1 : Int32) (x2 : Int32) (K : Int32 → ((Nat → Int32) × (Nat → Nat → Int32)) → Prop) : Prop :=
  wpX11_squares f g  (fun r11 u11 =>
    ((r11 ≤ x2) →
    wpX11_wipes u11.1 u11.2  (fun u50 =>
      K x1 (upd (upd (upd u50.1 43 (0 : Int32)) 44 (0 : Int32)) 45 ((u50.1 49) &&& (u50.1 50)), u50.2))) ∧
  (¬ (r11 ≤ x2) →
    vp_in x2 36 ∧ (¬ ((u11.2 47 (ix x2)) = 0) →
      wpX11_wipe_b36 B9 u11.1 u11.2 x1 x2 K) ∧
    (((u11.2 47 (ix x2)) = 0) →
      vp_in x2 36 ∧ (((u11.2 48 (ix x2)) = 0) →
        wpX11_wipe_b41 B9 u11.1 u11.2 x1 (0 : Int32) x2 K) ∧
      (¬ ((u11.2 48 (ix x2)) = 0) →
        wpX11_wipe_b36 B9 u11.1 u11.2 x1 x2 K))))
def wpX11_wipe_b9 (n_ : Nat) (f : Nat → Int32) (g : Nat → Nat → Int32) (x1 : Int32) (x2 : Int32) (K : Int32 → ((Nat → Int32) × (Nat → Nat → Int32)) → Prop) : Prop := match n_ with
  | 0 => False
  | n + 1 => wpX11_wipe_b9_body (fun f g x1 x2 => wpX11_wipe_b9 n f g x1 x2 K) f g x1 x2 K
def wpX11_wipe_b0 (f : Nat → Int32) (g : Nat → Nat → Int32) (K : Int32 → ((Nat → Int32) × (Nat → Nat → Int32)) → Prop) : Prop :=
  ∃ n, wpX11_wipe_b9 n (upd f 2 (0 : Int32)) g (0 : Int32) (0 : Int32) K
def wpX11_wipe (f : Nat → Int32) (g : Nat → Nat → Int32) (K : Int32 → ((Nat → Int32) × (Nat → Nat → Int32)) → Prop) : Prop := wpX11_wipe_b0 f g K
def wpX11_goes_b0 (f : Nat → Int32) (g : Nat → Nat → Int32) (K : ((Nat → Int32) × (Nat → Nat → Int32)) → Prop) : Prop :=
  wpX11_isWall f g (f 41) (f 42) (fun r9 u9 =>
    ((r9 = 0) →
    wpX11_ahead u9.1 u9.2 (u9.1 41) (u9.1 42) (fun r26 u26 =>
      K (upd (upd u26.1 41 r26) 53 ((u26.1 53) + (1 : Int32)), u26.2))) ∧
  (¬ (r9 = 0) →
    K (u9.1, u9.2)))
def wpX11_goes (f : Nat → Int32) (g : Nat → Nat → Int32) (K : ((Nat → Int32) × (Nat → Nat → Int32)) → Prop) : Prop := wpX11_goes_b0 f g K
def wpX11_holds_b179 (f : Nat → Int32) (g : Nat → Nat → Int32) (k0 : Int32) (K : Int32 → ((Nat → Int32) × (Nat → Nat → Int32)) → Prop) : Prop :=
  isB k0 ∧ K k0 (f, g)
def wpX11_holds_b164 (f : Nat → Int32) (g : Nat → Nat → Int32) (x1 : Int32) (x2 : Int32) (K : Int32 → ((Nat → Int32) × (Nat → Nat → Int32)) → Prop) : Prop :=
  vp_in x1 720 ∧ ((x2 = (g 17 (ix x1))) →
    wpX11_holds_b179 f g (0 : Int32) K) ∧
  (¬ (x2 = (g 17 (ix x1))) →
    wpX11_holds_b179 f g (1 : Int32) K)
def wpX11_holds_b72 (f : Nat → Int32) (g : Nat → Nat → Int32) (k0 : Int32) (x1 : Int32) (K : Int32 → ((Nat → Int32) × (Nat → Nat → Int32)) → Prop) : Prop :=
  wpX11_holds_b164 f g x1 k0 K
def wpX11_holds_b97 (f : Nat → Int32) (g : Nat → Nat → Int32) (k0 : Int32) (x1 : Int32) (K : Int32 → ((Nat → Int32) × (Nat → Nat → Int32)) → Prop) : Prop :=
  wpX11_holds_b164 f g x1 k0 K
def wpX11_holds_b119 (f : Nat → Int32) (g : Nat → Nat → Int32) (k0 : Int32) (x1 : Int32) (K : Int32 → ((Nat → Int32) × (Nat → Nat → Int32)) → Prop) : Prop :=
  wpX11_holds_b164 f g x1 k0 K
def wpX11_holds_b141 (f : Nat → Int32) (g : Nat → Nat → Int32) (k0 : Int32) (x1 : Int32) (K : Int32 → ((Nat → Int32) × (Nat → Nat → Int32)) → Prop) : Prop :=
  wpX11_holds_b164 f g x1 k0 K
def wpX11_holds_b0 (f : Nat → Int32) (g : Nat → Nat → Int32) (x1 : Int32) (K : Int32 → ((Nat → Int32) × (Nat → Nat → Int32)) → Prop) : Prop :=
  vp_in x1 720 ∧ ((g 15 (ix x1)) = (3 : Int32) →
    wpX11_isWall f g (f 41) (f 42) (fun r49 u49 =>
        wpX11_holds_b164 u49.1 u49.2 x1 r49 K)) ∧
  ((g 15 (ix x1)) = (4 : Int32) →
    (¬ ((f 41) = (f 40)) →
        wpX11_holds_b72 f g (0 : Int32) x1 K) ∧
      (((f 41) = (f 40)) →
        wpX11_holds_b72 f g (1 : Int32) x1 K)) ∧
  ((g 15 (ix x1)) = (5 : Int32) →
    vp_in (f 41) 36 ∧ (¬ ((f 42) = (g 47 (ix (f 41)))) →
        wpX11_holds_b97 f g (0 : Int32) x1 K) ∧
      (((f 42) = (g 47 (ix (f 41)))) →
        wpX11_holds_b97 f g (1 : Int32) x1 K)) ∧
  ((g 15 (ix x1)) = (6 : Int32) →
    vp_in x1 720 ∧ (¬ ((f 43) = (g 16 (ix x1))) →
        wpX11_holds_b119 f g (0 : Int32) x1 K) ∧
      (((f 43) = (g 16 (ix x1))) →
        wpX11_holds_b119 f g (1 : Int32) x1 K)) ∧
  ((g 15 (ix x1)) = (7 : Int32) →
    vp_in x1 720 ∧ (((f 44) < (g 16 (ix x1))) →
        wpX11_holds_b141 f g (0 : Int32) x1 K) ∧
      (¬ ((f 44) < (g 16 (ix x1))) →
        wpX11_holds_b141 f g (1 : Int32) x1 K)) ∧
  ((g 15 (ix x1)).toInt < 3 ∨ 7 < (g 15 (ix x1)).toInt →
    vp_in (f 41) 36 ∧ vp_in x1 720 ∧ wpX11_isOf (g 48 (ix (f 41))) (g 16 (ix x1)) (fun r160 u160 =>
      wpX11_holds_b164 f g x1 r160 K))
def wpX11_holds (f : Nat → Int32) (g : Nat → Nat → Int32) (x1 : Int32) (K : Int32 → ((Nat → Int32) × (Nat → Nat → Int32)) → Prop) : Prop := wpX11_holds_b0 f g x1 K
def wpX11_does_b272 (f : Nat → Int32) (g : Nat → Nat → Int32) (K : ((Nat → Int32) × (Nat → Nat → Int32)) → Prop) : Prop :=
  K (f, g)
def wpX11_does_b191 (f : Nat → Int32) (g : Nat → Nat → Int32) (k1 : Int32) (k2 : Int32) (k3 : Int32) (K : ((Nat → Int32) × (Nat → Nat → Int32)) → Prop) : Prop :=
  vp_in k1 36 ∧ wpX11_does_b272 f (pt g 48 (ix k1) (k2 ||| k3)) K
def wpX11_does_b253 (f : Nat → Int32) (g : Nat → Nat → Int32) (k1 : Int32) (k2 : Int32) (K : ((Nat → Int32) × (Nat → Nat → Int32)) → Prop) : Prop :=
  wpX11_does_b272 (upd f 44 (k1 + k2)) g K
def wpX11_does_b0 (f : Nat → Int32) (g : Nat → Nat → Int32) (x1 : Int32) (K : ((Nat → Int32) × (Nat → Nat → Int32)) → Prop) : Prop :=
  vp_in x1 720 ∧ ((g 18 (ix x1)) = (6 : Int32) →
    vp_in x1 720 ∧ wpX11_does_b272 (upd f 43 (g 19 (ix x1))) g K) ∧
  ((g 18 (ix x1)) = (7 : Int32) →
    wpX11_wipes f g  (fun u269 =>
        wpX11_does_b272 u269.1 u269.2 K)) ∧
  ((g 18 (ix x1)) = (8 : Int32) →
    wpX11_wipes f g  (fun u269 =>
        wpX11_does_b272 u269.1 u269.2 K)) ∧
  ((g 18 (ix x1)) = (9 : Int32) →
    wpX11_does_b272 (upd f 42 (jrem ((f 42) + (1 : Int32)) (4 : Int32))) g K) ∧
  ((g 18 (ix x1)) = (10 : Int32) →
    wpX11_does_b272 (upd f 42 (jrem ((f 42) + (3 : Int32)) (4 : Int32))) g K) ∧
  ((g 18 (ix x1)) = (11 : Int32) →
    wpX11_does_b272 (upd f 42 (jrem ((f 42) + (2 : Int32)) (4 : Int32))) g K) ∧
  ((g 18 (ix x1)) = (12 : Int32) →
    vp_in (f 41) 36 ∧ wpX11_does_b272 (upd f 42 (g 47 (ix (f 41)))) g K) ∧
  ((g 18 (ix x1)) = (13 : Int32) →
    vp_in (f 41) 36 ∧ wpX11_does_b272 f (pt g 47 (ix (f 41)) (f 42)) K) ∧
  ((g 18 (ix x1)) = (14 : Int32) →
    wpX11_goes f g  (fun u150 =>
        wpX11_does_b272 u150.1 u150.2 K)) ∧
  ((g 18 (ix x1)) = (15 : Int32) →
    vp_in (f 41) 36 ∧ vp_in x1 720 ∧ (¬ ((g 19 (ix x1)) = (f 52)) →
        vp_in x1 720 ∧ wpX11_does_b191 f g (f 41) (g 48 (ix (f 41))) (jshl (1 : Int32) (g 19 (ix x1))) K) ∧
      (((g 19 (ix x1)) = (f 52)) →
        wpX11_does_b191 f g (f 41) (g 48 (ix (f 41))) (0 : Int32) K)) ∧
  ((g 18 (ix x1)) = (16 : Int32) →
    vp_in (f 41) 36 ∧ vp_in x1 720 ∧ vp_in (f 41) 36 ∧ wpX11_does_b272 f (pt g 48 (ix (f 41)) ((g 48 (ix (f 41))) &&& ((jshl (1 : Int32) (g 19 (ix x1))) ^^^ (-1 : Int32)))) K) ∧
  ((g 18 (ix x1)) = (17 : Int32) →
    (((99 : Int32) ≤ (f 44)) →
        wpX11_does_b253 f g (f 44) (0 : Int32) K) ∧
      (¬ ((99 : Int32) ≤ (f 44)) →
        wpX11_does_b253 f g (f 44) (1 : Int32) K)) ∧
  ((g 18 (ix x1)) = (18 : Int32) →
    wpX11_does_b272 (upd f 44 (0 : Int32)) g K) ∧
  ((g 18 (ix x1)).toInt < 6 ∨ 18 < (g 18 (ix x1)).toInt →
    wpX11_wipes f g  (fun u269 =>
      wpX11_does_b272 u269.1 u269.2 K))
def wpX11_does (f : Nat → Int32) (g : Nat → Nat → Int32) (x1 : Int32) (K : ((Nat → Int32) × (Nat → Nat → Int32)) → Prop) : Prop := wpX11_does_b0 f g x1 K
def wpX11_ticks_b60_body (B60 : (Nat → Int32) → (Nat → Nat → Int32) → Int32 → Int32 → Prop) (f : Nat → Int32) (g : Nat → Nat → Int32) (x1 : Int32) (x3 : Int32) (K : Int32 → ((Nat → Int32) × (Nat → Nat → Int32)) → Prop) : Prop :=
  vp_in x1 60 ∧ (((((12 : Int32) * x1) + (g 14 (ix x1))) ≤ x3) →
    K x1 (f, g)) ∧
  (¬ ((((12 : Int32) * x1) + (g 14 (ix x1))) ≤ x3) →
    wpX11_does f g x3 (fun u77 =>
      B60 u77.1 u77.2 x1 (x3 + (1 : Int32))))
def wpX11_ticks_b60 (n_ : Nat) (f : Nat → Int32) (g : Nat → Nat → Int32) (x1 : Int32) (x3 : Int32) (K : Int32 → ((Nat → Int32) × (Nat → Nat → Int32)) → Prop) : Prop := match n_ with
  | 0 => False
  | n + 1 => wpX11_ticks_b60_body (fun f g x1 x3 => wpX11_ticks_b60 n f g x1 x3 K) f g x1 x3 K
def wpX11_ticks_b48 (B2 : (Nat → Int32) → (Nat → Nat → Int32) → Int32 → Prop) (f : Nat → Int32) (g : Nat → Nat → Int32) (x1 : Int32) (x2 : Int32) (K : Int32 → ((Nat → Int32) × (Nat → Nat → Int32)) → Prop) : Prop :=
  (¬ (x2 = 0) →
    ∃ n, wpX11_ticks_b60 n f g x1 ((12 : Int32) * x1) K) ∧
  ((x2 = 0) →
    B2 f g (x1 + (1 : Int32)))
def wpX11_ticks_b17_body (B2 : (Nat → Int32) → (Nat → Nat → Int32) → Int32 → Prop) (B17 : (Nat → Int32) → (Nat → Nat → Int32) → Int32 → Int32 → Int32 → Prop) (f : Nat → Int32) (g : Nat → Nat → Int32) (x1 : Int32) (x2 : Int32) (x3 : Int32) (K : Int32 → ((Nat → Int32) × (Nat → Nat → Int32)) → Prop) : Prop :=
  vp_in x1 60 ∧ (((((12 : Int32) * x1) + (g 13 (ix x1))) ≤ x3) →
    wpX11_ticks_b48 B2 f g x1 x2 K) ∧
  (¬ ((((12 : Int32) * x1) + (g 13 (ix x1))) ≤ x3) →
    ((x2 = 0) →
      wpX11_ticks_b48 B2 f g x1 x2 K) ∧
    (¬ (x2 = 0) →
      wpX11_holds f g x3 (fun r38 u38 =>
        B17 u38.1 u38.2 x1 r38 (x3 + (1 : Int32)))))
def wpX11_ticks_b17 (B2 : (Nat → Int32) → (Nat → Nat → Int32) → Int32 → Prop) (n_ : Nat) (f : Nat → Int32) (g : Nat → Nat → Int32) (x1 : Int32) (x2 : Int32) (x3 : Int32) (K : Int32 → ((Nat → Int32) × (Nat → Nat → Int32)) → Prop) : Prop := match n_ with
  | 0 => False
  | n + 1 => wpX11_ticks_b17_body B2 (fun f g x1 x2 x3 => wpX11_ticks_b17 B2 n f g x1 x2 x3 K) f g x1 x2 x3 K
def wpX11_ticks_b2_body (B2 : (Nat → Int32) → (Nat → Nat → Int32) → Int32 → Prop) (f : Nat → Int32) (g : Nat → Nat → Int32) (x1 : Int32) (K : Int32 → ((Nat → Int32) × (Nat → Nat → Int32)) → Prop) : Prop :=
  (((f 12) ≤ x1) →
    K (-1 : Int32) (f, g)) ∧
  (¬ ((f 12) ≤ x1) →
    ∃ n, wpX11_ticks_b17 B2 n f g x1 (1 : Int32) ((12 : Int32) * x1) K)
def wpX11_ticks_b2 (n_ : Nat) (f : Nat → Int32) (g : Nat → Nat → Int32) (x1 : Int32) (K : Int32 → ((Nat → Int32) × (Nat → Nat → Int32)) → Prop) : Prop := match n_ with
  | 0 => False
  | n + 1 => wpX11_ticks_b2_body (fun f g x1 => wpX11_ticks_b2 n f g x1 K) f g x1 K
def wpX11_ticks_b0 (f : Nat → Int32) (g : Nat → Nat → Int32) (K : Int32 → ((Nat → Int32) × (Nat → Nat → Int32)) → Prop) : Prop :=
  ∃ n, wpX11_ticks_b2 n f g (0 : Int32) K
def wpX11_ticks (f : Nat → Int32) (g : Nat → Nat → Int32) (K : Int32 → ((Nat → Int32) × (Nat → Nat → Int32)) → Prop) : Prop := wpX11_ticks_b0 f g K
def wpX11_tick_b48 (B22 : (Nat → Int32) → (Nat → Nat → Int32) → Int32 → Int32 → Int32 → Prop) (f : Nat → Int32) (g : Nat → Nat → Int32) (k0 : Int32) (k1 : Int32) (x1 : Int32) (x3 : Int32) (K : Int32 → ((Nat → Int32) × (Nat → Nat → Int32)) → Prop) : Prop :=
  B22 f g x1 (k0 + k1) (x3 + (1 : Int32))
def wpX11_tick_b22_body (B22 : (Nat → Int32) → (Nat → Nat → Int32) → Int32 → Int32 → Int32 → Prop) (f : Nat → Int32) (g : Nat → Nat → Int32) (x1 : Int32) (x2 : Int32) (x3 : Int32) (K : Int32 → ((Nat → Int32) × (Nat → Nat → Int32)) → Prop) : Prop :=
  ((x1 ≤ x3) →
    K x2 (f, g)) ∧
  (¬ (x1 ≤ x3) →
    wpX11_ticks f g  (fun r29 u29 =>
      ((r29 < 0) →
      wpX11_tick_b48 B22 (upd u29.1 51 r29) u29.2 x2 (0 : Int32) x1 x3 K) ∧
    (¬ (r29 < 0) →
      wpX11_tick_b48 B22 (upd u29.1 51 r29) u29.2 x2 (1 : Int32) x1 x3 K)))
def wpX11_tick_b22 (n_ : Nat) (f : Nat → Int32) (g : Nat → Nat → Int32) (x1 : Int32) (x2 : Int32) (x3 : Int32) (K : Int32 → ((Nat → Int32) × (Nat → Nat → Int32)) → Prop) : Prop := match n_ with
  | 0 => False
  | n + 1 => wpX11_tick_b22_body (fun f g x1 x2 x3 => wpX11_tick_b22 n f g x1 x2 x3 K) f g x1 x2 x3 K
def wpX11_tick_b0 (f : Nat → Int32) (g : Nat → Nat → Int32) (x1 : Int32) (K : Int32 → ((Nat → Int32) × (Nat → Nat → Int32)) → Prop) : Prop :=
  wpX11_isIn x1 (0 : Int32) (5000 : Int32) (fun r10 u10 =>
    (¬ (r10 = 0) →
    ∃ n, wpX11_tick_b22 n (upd f 2 (0 : Int32)) g x1 (0 : Int32) (0 : Int32) K) ∧
  ((r10 = 0) →
    K (-1 : Int32) (upd f 2 (0 : Int32), g)))
def wpX11_tick (f : Nat → Int32) (g : Nat → Nat → Int32) (x1 : Int32) (K : Int32 → ((Nat → Int32) × (Nat → Nat → Int32)) → Prop) : Prop := wpX11_tick_b0 f g x1 K
def wpX11_run_b20_body (B20 : (Nat → Int32) → (Nat → Nat → Int32) → Int32 → Int32 → Prop) (f : Nat → Int32) (g : Nat → Nat → Int32) (x1 : Int32) (x2 : Int32) (K : Int32 → ((Nat → Int32) × (Nat → Nat → Int32)) → Prop) : Prop :=
  (((f 41) = (f 40)) →
    K x2 (f, g)) ∧
  (¬ ((f 41) = (f 40)) →
    (¬ (x2 = x1) →
      wpX11_ticks f g  (fun r41 u41 =>
        B20 (upd u41.1 51 r41) u41.2 x1 (x2 + (1 : Int32)))) ∧
    ((x2 = x1) →
      K (-2 : Int32) (f, g)))
def wpX11_run_b20 (n_ : Nat) (f : Nat → Int32) (g : Nat → Nat → Int32) (x1 : Int32) (x2 : Int32) (K : Int32 → ((Nat → Int32) × (Nat → Nat → Int32)) → Prop) : Prop := match n_ with
  | 0 => False
  | n + 1 => wpX11_run_b20_body (fun f g x1 x2 => wpX11_run_b20 n f g x1 x2 K) f g x1 x2 K
def wpX11_run_b0 (f : Nat → Int32) (g : Nat → Nat → Int32) (x1 : Int32) (K : Int32 → ((Nat → Int32) × (Nat → Nat → Int32)) → Prop) : Prop :=
  wpX11_isIn x1 (0 : Int32) (5000 : Int32) (fun r10 u10 =>
    (¬ (r10 = 0) →
    ∃ n, wpX11_run_b20 n (upd f 2 (0 : Int32)) g x1 (0 : Int32) K) ∧
  ((r10 = 0) →
    K (-1 : Int32) (upd f 2 (0 : Int32), g)))
def wpX11_run (f : Nat → Int32) (g : Nat → Nat → Int32) (x1 : Int32) (K : Int32 → ((Nat → Int32) × (Nat → Nat → Int32)) → Prop) : Prop := wpX11_run_b0 f g x1 K
def wpX11_comesIn_b2_body (B2 : (Nat → Int32) → (Nat → Nat → Int32) → Int32 → Int32 → Prop) (f : Nat → Int32) (g : Nat → Nat → Int32) (x1 : Int32) (x2 : Int32) (K : Int32 → ((Nat → Int32) × (Nat → Nat → Int32)) → Prop) : Prop :=
  (((f 41) = (f 40)) →
    K x2 (f, g)) ∧
  (¬ ((f 41) = (f 40)) →
    (¬ (x2 = x1) →
      wpX11_ticks f g  (fun r22 u22 =>
        B2 u22.1 u22.2 x1 (x2 + (1 : Int32)))) ∧
    ((x2 = x1) →
      K (-2 : Int32) (f, g)))
def wpX11_comesIn_b2 (n_ : Nat) (f : Nat → Int32) (g : Nat → Nat → Int32) (x1 : Int32) (x2 : Int32) (K : Int32 → ((Nat → Int32) × (Nat → Nat → Int32)) → Prop) : Prop := match n_ with
  | 0 => False
  | n + 1 => wpX11_comesIn_b2_body (fun f g x1 x2 => wpX11_comesIn_b2 n f g x1 x2 K) f g x1 x2 K
def wpX11_comesIn_b0 (f : Nat → Int32) (g : Nat → Nat → Int32) (x1 : Int32) (K : Int32 → ((Nat → Int32) × (Nat → Nat → Int32)) → Prop) : Prop :=
  ∃ n, wpX11_comesIn_b2 n f g x1 (0 : Int32) K
def wpX11_comesIn (f : Nat → Int32) (g : Nat → Nat → Int32) (x1 : Int32) (K : Int32 → ((Nat → Int32) × (Nat → Nat → Int32)) → Prop) : Prop := wpX11_comesIn_b0 f g x1 K
def wpX11_mouse_b0 (f : Nat → Int32) (g : Nat → Nat → Int32) (x1 : Int32) (K : Int32 → ((Nat → Int32) × (Nat → Nat → Int32)) → Prop) : Prop :=
  (x1 = (0 : Int32) →
    K (f 41) (upd f 2 (0 : Int32), g)) ∧
  (x1 = (1 : Int32) →
    K (f 42) (upd f 2 (0 : Int32), g)) ∧
  (x1 = (2 : Int32) →
    K (f 43) (upd f 2 (0 : Int32), g)) ∧
  (x1 = (3 : Int32) →
    K (f 44) (upd f 2 (0 : Int32), g)) ∧
  (x1 = (4 : Int32) →
    K (f 51) (upd f 2 (0 : Int32), g)) ∧
  ((x1).toInt < 0 ∨ 4 < (x1).toInt →
    K (-1 : Int32) (upd f 2 (0 : Int32), g))
def wpX11_mouse (f : Nat → Int32) (g : Nat → Nat → Int32) (x1 : Int32) (K : Int32 → ((Nat → Int32) × (Nat → Nat → Int32)) → Prop) : Prop := wpX11_mouse_b0 f g x1 K
def wpX11_fails_b0 (f : Nat → Int32) (g : Nat → Nat → Int32) (x1 : Int32) (K : Int32 → ((Nat → Int32) × (Nat → Nat → Int32)) → Prop) : Prop :=
  K (0 : Int32) (upd f 2 x1, g)
def wpX11_fails (f : Nat → Int32) (g : Nat → Nat → Int32) (x1 : Int32) (K : Int32 → ((Nat → Int32) × (Nat → Nat → Int32)) → Prop) : Prop := wpX11_fails_b0 f g x1 K
def wpX11_layFar_b132 (B45 : (Nat → Int32) → (Nat → Nat → Int32) → Int32 → Int32 → Prop) (B52 : (Nat → Int32) → (Nat → Nat → Int32) → Int32 → Int32 → Int32 → Prop) (f : Nat → Int32) (g : Nat → Nat → Int32) (x1 : Int32) (x2 : Int32) (x3 : Int32) (K : ((Nat → Int32) × (Nat → Nat → Int32)) → Prop) : Prop :=
  B52 f g x1 x2 (x3 + (1 : Int32))
def wpX11_layFar_b52_body (B45 : (Nat → Int32) → (Nat → Nat → Int32) → Int32 → Int32 → Prop) (B52 : (Nat → Int32) → (Nat → Nat → Int32) → Int32 → Int32 → Int32 → Prop) (f : Nat → Int32) (g : Nat → Nat → Int32) (x1 : Int32) (x2 : Int32) (x3 : Int32) (K : ((Nat → Int32) × (Nat → Nat → Int32)) → Prop) : Prop :=
  (((4 : Int32) ≤ x3) →
    B45 f g x1 (x2 + (1 : Int32))) ∧
  (¬ ((4 : Int32) ≤ x3) →
    vp_in x2 36 ∧ wpX11_isWall f g (g 55 (ix x2)) x3 (fun r65 u65 =>
      ((r65 = 0) →
      vp_in x2 36 ∧ wpX11_ahead u65.1 u65.2 (u65.2 55 (ix x2)) x3 (fun r82 u82 =>
        vp_in r82 36 ∧ (((u82.2 54 (ix r82)) = (-1 : Int32)) →
        vp_in x2 36 ∧ vp_in (u82.2 55 (ix x2)) 36 ∧ vp_in r82 36 ∧ vp_in x1 36 ∧ wpX11_layFar_b132 B45 B52 u82.1 (pt (pt u82.2 54 (ix r82) ((u82.2 54 (ix (u82.2 55 (ix x2)))) + (1 : Int32))) 55 (ix x1) r82) (x1 + (1 : Int32)) x2 x3 K) ∧
      (¬ ((u82.2 54 (ix r82)) = (-1 : Int32)) →
        wpX11_layFar_b132 B45 B52 u82.1 u82.2 x1 x2 x3 K))) ∧
    (¬ (r65 = 0) →
      wpX11_layFar_b132 B45 B52 u65.1 u65.2 x1 x2 x3 K)))
def wpX11_layFar_b52 (B45 : (Nat → Int32) → (Nat → Nat → Int32) → Int32 → Int32 → Prop) (n_ : Nat) (f : Nat → Int32) (g : Nat → Nat → Int32) (x1 : Int32) (x2 : Int32) (x3 : Int32) (K : ((Nat → Int32) × (Nat → Nat → Int32)) → Prop) : Prop := match n_ with
  | 0 => False
  | n + 1 => wpX11_layFar_b52_body B45 (fun f g x1 x2 x3 => wpX11_layFar_b52 B45 n f g x1 x2 x3 K) f g x1 x2 x3 K
def wpX11_layFar_b45_body (B45 : (Nat → Int32) → (Nat → Nat → Int32) → Int32 → Int32 → Prop) (f : Nat → Int32) (g : Nat → Nat → Int32) (x1 : Int32) (x2 : Int32) (K : ((Nat → Int32) × (Nat → Nat → Int32)) → Prop) : Prop :=
  ((x1 ≤ x2) →
    K (f, g)) ∧
  (¬ (x1 ≤ x2) →
    ∃ n, wpX11_layFar_b52 B45 n f g x1 x2 (0 : Int32) K)
def wpX11_layFar_b45 (n_ : Nat) (f : Nat → Int32) (g : Nat → Nat → Int32) (x1 : Int32) (x2 : Int32) (K : ((Nat → Int32) × (Nat → Nat → Int32)) → Prop) : Prop := match n_ with
  | 0 => False
  | n + 1 => wpX11_layFar_b45_body (fun f g x1 x2 => wpX11_layFar_b45 n f g x1 x2 K) f g x1 x2 K
def wpX11_layFar_b2_body (B2 : (Nat → Int32) → (Nat → Nat → Int32) → Int32 → Prop) (f : Nat → Int32) (g : Nat → Nat → Int32) (x1 : Int32) (K : ((Nat → Int32) × (Nat → Nat → Int32)) → Prop) : Prop :=
  (((36 : Int32) ≤ x1) →
    vp_in (f 40) 36 ∧ vp_in (0 : Int32) 36 ∧ ∃ n, wpX11_layFar_b45 n f (pt (pt g 54 (ix (f 40)) (0 : Int32)) 55 (ix (0 : Int32)) (f 40)) (1 : Int32) (0 : Int32) K) ∧
  (¬ ((36 : Int32) ≤ x1) →
    vp_in x1 36 ∧ B2 f (pt g 54 (ix x1) (-1 : Int32)) (x1 + (1 : Int32)))
def wpX11_layFar_b2 (n_ : Nat) (f : Nat → Int32) (g : Nat → Nat → Int32) (x1 : Int32) (K : ((Nat → Int32) × (Nat → Nat → Int32)) → Prop) : Prop := match n_ with
  | 0 => False
  | n + 1 => wpX11_layFar_b2_body (fun f g x1 => wpX11_layFar_b2 n f g x1 K) f g x1 K
def wpX11_layFar_b0 (f : Nat → Int32) (g : Nat → Nat → Int32) (K : ((Nat → Int32) × (Nat → Nat → Int32)) → Prop) : Prop :=
  ∃ n, wpX11_layFar_b2 n f g (0 : Int32) K
def wpX11_layFar (f : Nat → Int32) (g : Nat → Nat → Int32) (K : ((Nat → Int32) × (Nat → Nat → Int32)) → Prop) : Prop := wpX11_layFar_b0 f g K
def wpX11_look_b0 (f : Nat → Int32) (g : Nat → Nat → Int32) (x1 : Int32) (x2 : Int32) (K : Int32 → ((Nat → Int32) × (Nat → Nat → Int32)) → Prop) : Prop :=
  wpX11_isSquare (upd f 2 (0 : Int32)) g x1 (fun r7 u7 =>
    (¬ (r7 = 0) →
    (x2 = (0 : Int32) →
      vp_in x1 36 ∧ K (u7.2 47 (ix x1)) (u7.1, u7.2)) ∧
    (x2 = (1 : Int32) →
      vp_in x1 36 ∧ K (u7.2 48 (ix x1)) (u7.1, u7.2)) ∧
    (x2 = (2 : Int32) →
      vp_in x1 36 ∧ K (u7.2 46 (ix x1)) (u7.1, u7.2)) ∧
    (x2 = (3 : Int32) →
      wpX11_layFar u7.1 u7.2  (fun u74 =>
          vp_in x1 36 ∧ K (u74.2 54 (ix x1)) (u74.1, u74.2))) ∧
    ((x2).toInt < 0 ∨ 3 < (x2).toInt →
      wpX11_fails u7.1 u7.2 (2 : Int32) (fun r86 u86 =>
        K r86 (u86.1, u86.2)))) ∧
  ((r7 = 0) →
    wpX11_fails u7.1 u7.2 (1 : Int32) (fun r15 u15 =>
      K r15 (u15.1, u15.2))))
def wpX11_look (f : Nat → Int32) (g : Nat → Nat → Int32) (x1 : Int32) (x2 : Int32) (K : Int32 → ((Nat → Int32) × (Nat → Nat → Int32)) → Prop) : Prop := wpX11_look_b0 f g x1 x2 K
def wpX11_puts_b103_body (B103 : (Nat → Int32) → (Nat → Nat → Int32) → Int32 → Int32 → Prop) (f : Nat → Int32) (g : Nat → Nat → Int32) (x2 : Int32) (x3 : Int32) (K : ((Nat → Int32) × (Nat → Nat → Int32)) → Prop) : Prop :=
  (((36 : Int32) ≤ x3) →
    K (f, g)) ∧
  (¬ ((36 : Int32) ≤ x3) →
    vp_in x3 36 ∧ vp_in ((x2 + (8 : Int32)) + x3) 840 ∧ vp_in x3 36 ∧ vp_in ((x2 + (44 : Int32)) + x3) 840 ∧ vp_in x3 36 ∧ vp_in ((x2 + (80 : Int32)) + x3) 840 ∧ B103 f (pt (pt (pt g 57 (ix ((x2 + (8 : Int32)) + x3)) (g 46 (ix x3))) 57 (ix ((x2 + (44 : Int32)) + x3)) (g 47 (ix x3))) 57 (ix ((x2 + (80 : Int32)) + x3)) (g 48 (ix x3))) x2 (x3 + (1 : Int32)))
def wpX11_puts_b103 (n_ : Nat) (f : Nat → Int32) (g : Nat → Nat → Int32) (x2 : Int32) (x3 : Int32) (K : ((Nat → Int32) × (Nat → Nat → Int32)) → Prop) : Prop := match n_ with
  | 0 => False
  | n + 1 => wpX11_puts_b103_body (fun f g x2 x3 => wpX11_puts_b103 n f g x2 x3 K) f g x2 x3 K
def wpX11_puts_b0 (f : Nat → Int32) (g : Nat → Nat → Int32) (x1 : Int32) (K : ((Nat → Int32) × (Nat → Nat → Int32)) → Prop) : Prop :=
  vp_in ((120 : Int32) * x1) 840 ∧ vp_in (((120 : Int32) * x1) + (1 : Int32)) 840 ∧ vp_in (((120 : Int32) * x1) + (2 : Int32)) 840 ∧ vp_in (((120 : Int32) * x1) + (3 : Int32)) 840 ∧ vp_in (((120 : Int32) * x1) + (4 : Int32)) 840 ∧ vp_in (((120 : Int32) * x1) + (5 : Int32)) 840 ∧ vp_in (((120 : Int32) * x1) + (6 : Int32)) 840 ∧ vp_in (((120 : Int32) * x1) + (7 : Int32)) 840 ∧ ∃ n, wpX11_puts_b103 n f (pt (pt (pt (pt (pt (pt (pt (pt g 57 (ix ((120 : Int32) * x1)) (f 38)) 57 (ix (((120 : Int32) * x1) + (1 : Int32))) (f 39)) 57 (ix (((120 : Int32) * x1) + (2 : Int32))) (f 40)) 57 (ix (((120 : Int32) * x1) + (3 : Int32))) (f 41)) 57 (ix (((120 : Int32) * x1) + (4 : Int32))) (f 42)) 57 (ix (((120 : Int32) * x1) + (5 : Int32))) (f 43)) 57 (ix (((120 : Int32) * x1) + (6 : Int32))) (f 44)) 57 (ix (((120 : Int32) * x1) + (7 : Int32))) (f 45)) ((120 : Int32) * x1) (0 : Int32) K
def wpX11_puts (f : Nat → Int32) (g : Nat → Nat → Int32) (x1 : Int32) (K : ((Nat → Int32) × (Nat → Nat → Int32)) → Prop) : Prop := wpX11_puts_b0 f g x1 K
def wpX11_takes_b103_body (B103 : (Nat → Int32) → (Nat → Nat → Int32) → Int32 → Int32 → Prop) (f : Nat → Int32) (g : Nat → Nat → Int32) (x2 : Int32) (x3 : Int32) (K : ((Nat → Int32) × (Nat → Nat → Int32)) → Prop) : Prop :=
  (((36 : Int32) ≤ x3) →
    K (f, g)) ∧
  (¬ ((36 : Int32) ≤ x3) →
    vp_in ((x2 + (8 : Int32)) + x3) 840 ∧ vp_in x3 36 ∧ vp_in ((x2 + (44 : Int32)) + x3) 840 ∧ vp_in x3 36 ∧ vp_in ((x2 + (80 : Int32)) + x3) 840 ∧ vp_in x3 36 ∧ B103 f (pt (pt (pt g 46 (ix x3) (g 57 (ix ((x2 + (8 : Int32)) + x3)))) 47 (ix x3) (g 57 (ix ((x2 + (44 : Int32)) + x3)))) 48 (ix x3) (g 57 (ix ((x2 + (80 : Int32)) + x3)))) x2 (x3 + (1 : Int32)))
def wpX11_takes_b103 (n_ : Nat) (f : Nat → Int32) (g : Nat → Nat → Int32) (x2 : Int32) (x3 : Int32) (K : ((Nat → Int32) × (Nat → Nat → Int32)) → Prop) : Prop := match n_ with
  | 0 => False
  | n + 1 => wpX11_takes_b103_body (fun f g x2 x3 => wpX11_takes_b103 n f g x2 x3 K) f g x2 x3 K
def wpX11_takes_b0 (f : Nat → Int32) (g : Nat → Nat → Int32) (x1 : Int32) (K : ((Nat → Int32) × (Nat → Nat → Int32)) → Prop) : Prop :=
  vp_in ((120 : Int32) * x1) 840 ∧ vp_in (((120 : Int32) * x1) + (1 : Int32)) 840 ∧ vp_in (((120 : Int32) * x1) + (2 : Int32)) 840 ∧ vp_in (((120 : Int32) * x1) + (3 : Int32)) 840 ∧ vp_in (((120 : Int32) * x1) + (4 : Int32)) 840 ∧ vp_in (((120 : Int32) * x1) + (5 : Int32)) 840 ∧ vp_in (((120 : Int32) * x1) + (6 : Int32)) 840 ∧ vp_in (((120 : Int32) * x1) + (7 : Int32)) 840 ∧ ∃ n, wpX11_takes_b103 n (upd (upd (upd (upd (upd (upd (upd (upd f 38 (g 57 (ix ((120 : Int32) * x1)))) 39 (g 57 (ix (((120 : Int32) * x1) + (1 : Int32))))) 40 (g 57 (ix (((120 : Int32) * x1) + (2 : Int32))))) 41 (g 57 (ix (((120 : Int32) * x1) + (3 : Int32))))) 42 (g 57 (ix (((120 : Int32) * x1) + (4 : Int32))))) 43 (g 57 (ix (((120 : Int32) * x1) + (5 : Int32))))) 44 (g 57 (ix (((120 : Int32) * x1) + (6 : Int32))))) 45 (g 57 (ix (((120 : Int32) * x1) + (7 : Int32))))) g ((120 : Int32) * x1) (0 : Int32) K
def wpX11_takes (f : Nat → Int32) (g : Nat → Nat → Int32) (x1 : Int32) (K : ((Nat → Int32) × (Nat → Nat → Int32)) → Prop) : Prop := wpX11_takes_b0 f g x1 K
def wpX11_keep_b0 (f : Nat → Int32) (g : Nat → Nat → Int32) (x1 : Int32) (K : Int32 → ((Nat → Int32) × (Nat → Nat → Int32)) → Prop) : Prop :=
  wpX11_isIn x1 (0 : Int32) (3 : Int32) (fun r8 u8 =>
    (¬ (r8 = 0) →
    wpX11_puts (upd f 2 (0 : Int32)) g x1 (fun u18 =>
      vp_in x1 4 ∧ K (1 : Int32) (u18.1, pt u18.2 56 (ix x1) (vp_nar .boolean (1 : Int32))))) ∧
  ((r8 = 0) →
    K (0 : Int32) (upd f 2 (0 : Int32), g)))
def wpX11_keep (f : Nat → Int32) (g : Nat → Nat → Int32) (x1 : Int32) (K : Int32 → ((Nat → Int32) × (Nat → Nat → Int32)) → Prop) : Prop := wpX11_keep_b0 f g x1 K
def wpX11_restore_b23 (f : Nat → Int32) (g : Nat → Nat → Int32) (K : Int32 → ((Nat → Int32) × (Nat → Nat → Int32)) → Prop) : Prop :=
  K (0 : Int32) (f, g)
def wpX11_restore_b0 (f : Nat → Int32) (g : Nat → Nat → Int32) (x1 : Int32) (K : Int32 → ((Nat → Int32) × (Nat → Nat → Int32)) → Prop) : Prop :=
  wpX11_isIn x1 (0 : Int32) (3 : Int32) (fun r8 u8 =>
    ((r8 = 0) →
    wpX11_restore_b23 (upd f 2 (0 : Int32)) g K) ∧
  (¬ (r8 = 0) →
    vp_in x1 4 ∧ (¬ ((g 56 (ix x1)) = 0) →
      wpX11_takes (upd f 2 (0 : Int32)) g x1 (fun u27 =>
        K (1 : Int32) (upd u27.1 45 (((u27.1 45) &&& ((u27.1 49) ^^^ (-1 : Int32))) ||| ((u27.1 49) &&& (u27.1 50))), u27.2))) ∧
    (((g 56 (ix x1)) = 0) →
      wpX11_restore_b23 (upd f 2 (0 : Int32)) g K)))
def wpX11_restore (f : Nat → Int32) (g : Nat → Nat → Int32) (x1 : Int32) (K : Int32 → ((Nat → Int32) × (Nat → Nat → Int32)) → Prop) : Prop := wpX11_restore_b0 f g x1 K
def wpX11_setDown_b0 (f : Nat → Int32) (g : Nat → Nat → Int32) (x1 : Int32) (K : ((Nat → Int32) × (Nat → Nat → Int32)) → Prop) : Prop :=
  wpX11_wipes f g  (fun u1 =>
    K (upd (upd (upd (upd u1.1 41 x1) 42 (0 : Int32)) 43 (0 : Int32)) 44 (0 : Int32), u1.2))
def wpX11_setDown (f : Nat → Int32) (g : Nat → Nat → Int32) (x1 : Int32) (K : ((Nat → Int32) × (Nat → Nat → Int32)) → Prop) : Prop := wpX11_setDown_b0 f g x1 K
def wpX11_comes_b110 (f : Nat → Int32) (g : Nat → Nat → Int32) (k0 : Int32) (K : Int32 → ((Nat → Int32) × (Nat → Nat → Int32)) → Prop) : Prop :=
  K k0 (f, g)
def wpX11_comes_b90 (B32 : (Nat → Int32) → (Nat → Nat → Int32) → Int32 → Int32 → Int32 → Int32 → Prop) (f : Nat → Int32) (g : Nat → Nat → Int32) (x1 : Int32) (x2 : Int32) (x3 : Int32) (x4 : Int32) (K : Int32 → ((Nat → Int32) × (Nat → Nat → Int32)) → Prop) : Prop :=
  B32 f g x1 x2 x3 (x4 + (1 : Int32))
def wpX11_comes_b86 (B32 : (Nat → Int32) → (Nat → Nat → Int32) → Int32 → Int32 → Int32 → Int32 → Prop) (f : Nat → Int32) (g : Nat → Nat → Int32) (k0 : Int32) (x1 : Int32) (x2 : Int32) (x4 : Int32) (K : Int32 → ((Nat → Int32) × (Nat → Nat → Int32)) → Prop) : Prop :=
  wpX11_comes_b90 B32 f g x1 (x2 + (1 : Int32)) k0 x4 K
def wpX11_comes_b32_body (B32 : (Nat → Int32) → (Nat → Nat → Int32) → Int32 → Int32 → Int32 → Int32 → Prop) (f : Nat → Int32) (g : Nat → Nat → Int32) (x1 : Int32) (x2 : Int32) (x3 : Int32) (x4 : Int32) (K : Int32 → ((Nat → Int32) × (Nat → Nat → Int32)) → Prop) : Prop :=
  wpX11_squares f g  (fun r35 u35 =>
    ((r35 ≤ x4) →
    wpX11_takes u35.1 u35.2 (4 : Int32) (fun u98 =>
      (¬ (x1 = 0) →
      wpX11_comes_b110 u98.1 u98.2 x3 K) ∧
    ((x1 = 0) →
      wpX11_comes_b110 u98.1 u98.2 x2 K))) ∧
  (¬ (r35 ≤ x4) →
    vp_in x4 36 ∧ (¬ ((u35.2 54 (ix x4)) = (-1 : Int32)) →
      wpX11_setDown u35.1 u35.2 x4 (fun u58 =>
        wpX11_comesIn u58.1 u58.2 (2000 : Int32) (fun r65 u65 =>
        ((r65 = (-2 : Int32)) →
        (¬ (x2 = 0) →
          wpX11_comes_b86 B32 u65.1 u65.2 x3 x1 x2 x4 K) ∧
        ((x2 = 0) →
          wpX11_comes_b86 B32 u65.1 u65.2 x4 x1 x2 x4 K)) ∧
      (¬ (r65 = (-2 : Int32)) →
        wpX11_comes_b90 B32 u65.1 u65.2 x1 x2 x3 x4 K)))) ∧
    (((u35.2 54 (ix x4)) = (-1 : Int32)) →
      wpX11_comes_b90 B32 u35.1 u35.2 x1 x2 x3 x4 K)))
def wpX11_comes_b32 (n_ : Nat) (f : Nat → Int32) (g : Nat → Nat → Int32) (x1 : Int32) (x2 : Int32) (x3 : Int32) (x4 : Int32) (K : Int32 → ((Nat → Int32) × (Nat → Nat → Int32)) → Prop) : Prop := match n_ with
  | 0 => False
  | n + 1 => wpX11_comes_b32_body (fun f g x1 x2 x3 x4 => wpX11_comes_b32 n f g x1 x2 x3 x4 K) f g x1 x2 x3 x4 K
def wpX11_comes_b0 (f : Nat → Int32) (g : Nat → Nat → Int32) (x1 : Int32) (K : Int32 → ((Nat → Int32) × (Nat → Nat → Int32)) → Prop) : Prop :=
  wpX11_isIn x1 (0 : Int32) (1 : Int32) (fun r8 u8 =>
    (¬ (r8 = 0) →
    wpX11_puts (upd f 2 (0 : Int32)) g (4 : Int32) (fun u18 =>
      wpX11_layFar u18.1 u18.2  (fun u22 =>
      ∃ n, wpX11_comes_b32 n u22.1 u22.2 x1 (0 : Int32) (-1 : Int32) (0 : Int32) K))) ∧
  ((r8 = 0) →
    K (-1 : Int32) (upd f 2 (0 : Int32), g)))
def wpX11_comes (f : Nat → Int32) (g : Nat → Nat → Int32) (x1 : Int32) (K : Int32 → ((Nat → Int32) × (Nat → Nat → Int32)) → Prop) : Prop := wpX11_comes_b0 f g x1 K
def wpX11_second_b22 (f : Nat → Int32) (g : Nat → Nat → Int32) (K : Int32 → ((Nat → Int32) × (Nat → Nat → Int32)) → Prop) : Prop :=
  K (-1 : Int32) (f, g)
def wpX11_second_b163 (f : Nat → Int32) (g : Nat → Nat → Int32) (k0 : Int32) (K : Int32 → ((Nat → Int32) × (Nat → Nat → Int32)) → Prop) : Prop :=
  K k0 (f, g)
def wpX11_second_b133 (f : Nat → Int32) (g : Nat → Nat → Int32) (x2 : Int32) (x3 : Int32) (x4 : Int32) (x5 : Int32) (x6 : Int32) (K : Int32 → ((Nat → Int32) × (Nat → Nat → Int32)) → Prop) : Prop :=
  (¬ (x2 = 0) →
    (¬ (x2 = (1 : Int32)) →
      (¬ (x2 = (2 : Int32)) →
        wpX11_second_b163 f g x6 K) ∧
      ((x2 = (2 : Int32)) →
        wpX11_second_b163 f g x4 K)) ∧
    ((x2 = (1 : Int32)) →
      wpX11_second_b163 f g x5 K)) ∧
  ((x2 = 0) →
    wpX11_second_b163 f g x3 K)
def wpX11_second_b130 (f : Nat → Int32) (g : Nat → Nat → Int32) (K : Int32 → ((Nat → Int32) × (Nat → Nat → Int32)) → Prop) : Prop :=
  K (-2 : Int32) (f, g)
def wpX11_second_b97 (f : Nat → Int32) (g : Nat → Nat → Int32) (x2 : Int32) (x3 : Int32) (x4 : Int32) (x5 : Int32) (K : Int32 → ((Nat → Int32) × (Nat → Nat → Int32)) → Prop) : Prop :=
  wpX11_takes f g (4 : Int32) (fun u105 =>
    (¬ ((jrem x2 (2 : Int32)) = 0) →
    (¬ (x5 = (-2 : Int32)) →
      wpX11_second_b133 u105.1 u105.2 x2 x3 x4 x5 (f 53) K) ∧
    ((x5 = (-2 : Int32)) →
      wpX11_second_b130 u105.1 u105.2 K)) ∧
  (((jrem x2 (2 : Int32)) = 0) →
    (¬ (x3 = (-2 : Int32)) →
      wpX11_second_b133 u105.1 u105.2 x2 x3 x4 x5 (f 53) K) ∧
    ((x3 = (-2 : Int32)) →
      wpX11_second_b130 u105.1 u105.2 K)))
def wpX11_second_b0 (f : Nat → Int32) (g : Nat → Nat → Int32) (x1 : Int32) (x2 : Int32) (K : Int32 → ((Nat → Int32) × (Nat → Nat → Int32)) → Prop) : Prop :=
  wpX11_isSquare (upd f 2 (0 : Int32)) g x1 (fun r7 u7 =>
    ((r7 = 0) →
    wpX11_second_b22 u7.1 u7.2 K) ∧
  (¬ (r7 = 0) →
    wpX11_isIn x2 (0 : Int32) (3 : Int32) (fun r16 u16 =>
      (¬ (r16 = 0) →
      wpX11_puts u7.1 u7.2 (4 : Int32) (fun u26 =>
        wpX11_setDown u26.1 u26.2 x1 (fun u31 =>
        wpX11_comesIn (upd u31.1 53 (0 : Int32)) u31.2 (2000 : Int32) (fun r43 u43 =>
        ((r43 = (-2 : Int32)) →
        wpX11_second_b97 u43.1 u43.2 x2 r43 (u43.1 53) (-2 : Int32) K) ∧
      (¬ (r43 = (-2 : Int32)) →
        wpX11_comesIn (upd (upd (upd (upd (upd u43.1 41 x1) 42 (0 : Int32)) 43 (0 : Int32)) 44 (0 : Int32)) 53 (0 : Int32)) u43.2 (2000 : Int32) (fun r92 u92 =>
          wpX11_second_b97 u92.1 u92.2 x2 r43 (u43.1 53) r92 K)))))) ∧
    ((r16 = 0) →
      wpX11_second_b22 u7.1 u7.2 K))))
def wpX11_second (f : Nat → Int32) (g : Nat → Nat → Int32) (x1 : Int32) (x2 : Int32) (K : Int32 → ((Nat → Int32) × (Nat → Nat → Int32)) → Prop) : Prop := wpX11_second_b0 f g x1 x2 K
def wpX11_isSmallFloor_b23 (k0 : Int32) (K : Int32 → Unit → Prop) : Prop :=
  isB k0 ∧ K k0 ()
def wpX11_isSmallFloor_b22 (K : Int32 → Unit → Prop) : Prop :=
  wpX11_isSmallFloor_b23 (0 : Int32) K
def wpX11_isSmallFloor_b0 (x0 : Int32) (x1 : Int32) (K : Int32 → Unit → Prop) : Prop :=
  wpX11_isIn x0 (2 : Int32) (3 : Int32) (fun r3 u3 =>
    ((r3 = 0) →
    wpX11_isSmallFloor_b22  K) ∧
  (¬ (r3 = 0) →
    wpX11_isIn x1 (2 : Int32) (3 : Int32) (fun r12 u12 =>
      ((r12 = 0) →
      wpX11_isSmallFloor_b22  K) ∧
    (¬ (r12 = 0) →
      wpX11_isSmallFloor_b23 (1 : Int32) K))))
def wpX11_isSmallFloor (x0 : Int32) (x1 : Int32) (K : Int32 → Unit → Prop) : Prop := wpX11_isSmallFloor_b0  x0 x1 K
def wpX11_wallMany_b0 (f : Nat → Int32) (g : Nat → Nat → Int32) (K : Int32 → ((Nat → Int32) × (Nat → Nat → Int32)) → Prop) : Prop :=
  K (((f 39) * ((f 38) - (1 : Int32))) + ((f 38) * ((f 39) - (1 : Int32)))) (f, g)
def wpX11_wallMany (f : Nat → Int32) (g : Nat → Nat → Int32) (K : Int32 → ((Nat → Int32) × (Nat → Nat → Int32)) → Prop) : Prop := wpX11_wallMany_b0 f g K
def wpX11_wallAt_b0 (f : Nat → Int32) (g : Nat → Nat → Int32) (x1 : Int32) (K : Int32 → ((Nat → Int32) × (Nat → Nat → Int32)) → Prop) : Prop :=
  ((((f 39) * ((f 38) - (1 : Int32))) ≤ x1) →
    K (((4 : Int32) * (x1 - ((f 39) * ((f 38) - (1 : Int32))))) + (2 : Int32)) (f, g)) ∧
  (¬ (((f 39) * ((f 38) - (1 : Int32))) ≤ x1) →
    (¬ (f 38) - (1 : Int32) = 0) ∧ (¬ (f 38) - (1 : Int32) = 0) ∧ K (((4 : Int32) * (((x1 / ((f 38) - (1 : Int32))) * (f 38)) + (jrem x1 ((f 38) - (1 : Int32))))) + (1 : Int32)) (f, g))
def wpX11_wallAt (f : Nat → Int32) (g : Nat → Nat → Int32) (x1 : Int32) (K : Int32 → ((Nat → Int32) × (Nat → Nat → Int32)) → Prop) : Prop := wpX11_wallAt_b0 f g x1 K
def wpX11_small_b0 (f : Nat → Int32) (g : Nat → Nat → Int32) (x1 : Int32) (x2 : Int32) (K : ((Nat → Int32) × (Nat → Nat → Int32)) → Prop) : Prop :=
  K (upd (upd (upd f 38 x1) 39 x2) 40 ((x1 * x2) - (1 : Int32)), g)
def wpX11_small (f : Nat → Int32) (g : Nat → Nat → Int32) (x1 : Int32) (x2 : Int32) (K : ((Nat → Int32) × (Nat → Nat → Int32)) → Prop) : Prop := wpX11_small_b0 f g x1 x2 K
def wpX11_wallsBy_b41 (B6 : (Nat → Int32) → (Nat → Nat → Int32) → Int32 → Int32 → Prop) (f : Nat → Int32) (g : Nat → Nat → Int32) (x1 : Int32) (x2 : Int32) (K : ((Nat → Int32) × (Nat → Nat → Int32)) → Prop) : Prop :=
  B6 f g x1 (x2 + (1 : Int32))
def wpX11_wallsBy_b6_body (B6 : (Nat → Int32) → (Nat → Nat → Int32) → Int32 → Int32 → Prop) (f : Nat → Int32) (g : Nat → Nat → Int32) (x1 : Int32) (x2 : Int32) (K : ((Nat → Int32) × (Nat → Nat → Int32)) → Prop) : Prop :=
  wpX11_wallMany f g  (fun r8 u8 =>
    ((r8 ≤ x2) →
    wpX11_layFar u8.1 u8.2  (fun u48 =>
      K (u48.1, u48.2))) ∧
  (¬ (r8 ≤ x2) →
    wpX11_isOf x1 x2 (fun r16 u16 =>
      ((r16 = 0) →
      wpX11_wallsBy_b41 B6 u8.1 u8.2 x1 x2 K) ∧
    (¬ (r16 = 0) →
      wpX11_wallAt u8.1 u8.2 x2 (fun r25 u25 =>
        wpX11_wallAt u25.1 u25.2 x2 (fun r32 u32 =>
        wpX11_putWall u32.1 u32.2 (r25 / (4 : Int32)) (jrem r32 (4 : Int32)) (1 : Int32) (fun u38 =>
        wpX11_wallsBy_b41 B6 u38.1 u38.2 x1 x2 K)))))))
def wpX11_wallsBy_b6 (n_ : Nat) (f : Nat → Int32) (g : Nat → Nat → Int32) (x1 : Int32) (x2 : Int32) (K : ((Nat → Int32) × (Nat → Nat → Int32)) → Prop) : Prop := match n_ with
  | 0 => False
  | n + 1 => wpX11_wallsBy_b6_body (fun f g x1 x2 => wpX11_wallsBy_b6 n f g x1 x2 K) f g x1 x2 K
def wpX11_wallsBy_b0 (f : Nat → Int32) (g : Nat → Nat → Int32) (x1 : Int32) (K : ((Nat → Int32) × (Nat → Nat → Int32)) → Prop) : Prop :=
  wpX11_plainWalls f g  (fun u1 =>
    ∃ n, wpX11_wallsBy_b6 n u1.1 u1.2 x1 (0 : Int32) K)
def wpX11_wallsBy (f : Nat → Int32) (g : Nat → Nat → Int32) (x1 : Int32) (K : ((Nat → Int32) × (Nat → Nat → Int32)) → Prop) : Prop := wpX11_wallsBy_b0 f g x1 K
def wpX11_laySmallRun_b78 (f : Nat → Int32) (g : Nat → Nat → Int32) (K : ((Nat → Int32) × (Nat → Nat → Int32)) → Prop) : Prop :=
  K (f, g)
def wpX11_laySmallRun_b45 (f : Nat → Int32) (g : Nat → Nat → Int32) (x1 : Int32) (x2 : Int32) (x3 : Int32) (x4 : Int32) (K : ((Nat → Int32) × (Nat → Nat → Int32)) → Prop) : Prop :=
  vp_in x1 16 ∧ ((x4 ≤ (g 61 (ix x1))) →
    wpX11_laySmallRun_b78 f g K) ∧
  (¬ (x4 ≤ (g 61 (ix x1))) →
    vp_in x1 16 ∧ vp_in x1 16 ∧ vp_in x1 16 ∧ wpX11_laySmallRun_b78 f (pt (pt (pt g 61 (ix x1) x4) 62 (ix x1) x2) 63 (ix x1) x3) K)
def wpX11_laySmallRun_b0 (f : Nat → Int32) (g : Nat → Nat → Int32) (x1 : Int32) (x2 : Int32) (x3 : Int32) (K : ((Nat → Int32) × (Nat → Nat → Int32)) → Prop) : Prop :=
  wpX11_setDown f g x3 (fun u2 =>
    wpX11_comesIn u2.1 u2.2 (100 : Int32) (fun r8 u8 =>
    (¬ (r8 = (-2 : Int32)) →
    wpX11_laySmallRun_b45 u8.1 u8.2 x1 x2 x3 r8 K) ∧
  ((r8 = (-2 : Int32)) →
    vp_in x1 16 ∧ (¬ ((u8.2 59 (ix x1)) = (-2 : Int32)) →
      wpX11_laySmallRun_b45 u8.1 u8.2 x1 x2 x3 r8 K) ∧
    (((u8.2 59 (ix x1)) = (-2 : Int32)) →
      vp_in x1 16 ∧ vp_in x1 16 ∧ wpX11_laySmallRun_b45 u8.1 (pt (pt u8.2 59 (ix x1) x2) 60 (ix x1) x3) x1 x2 x3 r8 K))))
def wpX11_laySmallRun (f : Nat → Int32) (g : Nat → Nat → Int32) (x1 : Int32) (x2 : Int32) (x3 : Int32) (K : ((Nat → Int32) × (Nat → Nat → Int32)) → Prop) : Prop := wpX11_laySmallRun_b0 f g x1 x2 x3 K
def wpX11_laySmall_b113 (B64 : (Nat → Int32) → (Nat → Nat → Int32) → Int32 → Int32 → Prop) (B84 : (Nat → Int32) → (Nat → Nat → Int32) → Int32 → Int32 → Int32 → Prop) (f : Nat → Int32) (g : Nat → Nat → Int32) (x3 : Int32) (x4 : Int32) (x5 : Int32) (K : ((Nat → Int32) × (Nat → Nat → Int32)) → Prop) : Prop :=
  B84 f g x3 x4 (x5 + (1 : Int32))
def wpX11_laySmall_b84_body (B64 : (Nat → Int32) → (Nat → Nat → Int32) → Int32 → Int32 → Prop) (B84 : (Nat → Int32) → (Nat → Nat → Int32) → Int32 → Int32 → Int32 → Prop) (f : Nat → Int32) (g : Nat → Nat → Int32) (x3 : Int32) (x4 : Int32) (x5 : Int32) (K : ((Nat → Int32) × (Nat → Nat → Int32)) → Prop) : Prop :=
  wpX11_squares f g  (fun r87 u87 =>
    ((r87 ≤ x5) →
    B64 u87.1 u87.2 x3 (x4 + (1 : Int32))) ∧
  (¬ (r87 ≤ x5) →
    vp_in x5 36 ∧ (((u87.2 54 (ix x5)) = (-1 : Int32)) →
      wpX11_laySmall_b113 B64 B84 u87.1 u87.2 x3 x4 x5 K) ∧
    (¬ ((u87.2 54 (ix x5)) = (-1 : Int32)) →
      wpX11_laySmallRun u87.1 u87.2 x3 x4 x5 (fun u110 =>
        wpX11_laySmall_b113 B64 B84 u110.1 u110.2 x3 x4 x5 K))))
def wpX11_laySmall_b84 (B64 : (Nat → Int32) → (Nat → Nat → Int32) → Int32 → Int32 → Prop) (n_ : Nat) (f : Nat → Int32) (g : Nat → Nat → Int32) (x3 : Int32) (x4 : Int32) (x5 : Int32) (K : ((Nat → Int32) × (Nat → Nat → Int32)) → Prop) : Prop := match n_ with
  | 0 => False
  | n + 1 => wpX11_laySmall_b84_body B64 (fun f g x3 x4 x5 => wpX11_laySmall_b84 B64 n f g x3 x4 x5 K) f g x3 x4 x5 K
def wpX11_laySmall_b64_body (B64 : (Nat → Int32) → (Nat → Nat → Int32) → Int32 → Int32 → Prop) (f : Nat → Int32) (g : Nat → Nat → Int32) (x3 : Int32) (x4 : Int32) (K : ((Nat → Int32) × (Nat → Nat → Int32)) → Prop) : Prop :=
  wpX11_wallMany f g  (fun r68 u68 =>
    (((jshl (1 : Int32) r68) ≤ x4) →
    wpX11_takes u68.1 u68.2 (4 : Int32) (fun u127 =>
      K (u127.1, u127.2))) ∧
  (¬ ((jshl (1 : Int32) r68) ≤ x4) →
    wpX11_wallsBy u68.1 u68.2 x4 (fun u78 =>
      ∃ n, wpX11_laySmall_b84 B64 n u78.1 u78.2 x3 x4 (0 : Int32) K)))
def wpX11_laySmall_b64 (n_ : Nat) (f : Nat → Int32) (g : Nat → Nat → Int32) (x3 : Int32) (x4 : Int32) (K : ((Nat → Int32) × (Nat → Nat → Int32)) → Prop) : Prop := match n_ with
  | 0 => False
  | n + 1 => wpX11_laySmall_b64_body (fun f g x3 x4 => wpX11_laySmall_b64 n f g x3 x4 K) f g x3 x4 K
def wpX11_laySmall_b0 (f : Nat → Int32) (g : Nat → Nat → Int32) (x1 : Int32) (x2 : Int32) (K : ((Nat → Int32) × (Nat → Nat → Int32)) → Prop) : Prop :=
  ∀ y9 : Int32, y9 = (((4 : Int32) * (x1 - (2 : Int32))) + x2) - (2 : Int32) → vp_in y9 16 ∧ (((g 58 (ix y9)) = 0) →
    vp_in y9 16 ∧ wpX11_puts f (pt g 58 (ix y9) (vp_nar .boolean (1 : Int32))) (4 : Int32) (fun u29 =>
      wpX11_small u29.1 u29.2 x1 x2 (fun u35 =>
      vp_in y9 16 ∧ vp_in y9 16 ∧ vp_in y9 16 ∧ ∃ n, wpX11_laySmall_b64 n u35.1 (pt (pt (pt u35.2 59 (ix y9) (-2 : Int32)) 60 (ix y9) (-2 : Int32)) 61 (ix y9) (-1 : Int32)) y9 (0 : Int32) K))) ∧
  (¬ ((g 58 (ix y9)) = 0) →
    K (f, g))
def wpX11_laySmall (f : Nat → Int32) (g : Nat → Nat → Int32) (x1 : Int32) (x2 : Int32) (K : ((Nat → Int32) × (Nat → Nat → Int32)) → Prop) : Prop := wpX11_laySmall_b0 f g x1 x2 K
def wpX11_held_b22 (f : Nat → Int32) (g : Nat → Nat → Int32) (K : Int32 → ((Nat → Int32) × (Nat → Nat → Int32)) → Prop) : Prop :=
  K (-1 : Int32) (f, g)
def wpX11_held_b62 (f : Nat → Int32) (g : Nat → Nat → Int32) (k0 : Int32) (K : Int32 → ((Nat → Int32) × (Nat → Nat → Int32)) → Prop) : Prop :=
  K k0 (f, g)
def wpX11_held_b0 (f : Nat → Int32) (g : Nat → Nat → Int32) (x1 : Int32) (x2 : Int32) (x3 : Int32) (K : Int32 → ((Nat → Int32) × (Nat → Nat → Int32)) → Prop) : Prop :=
  wpX11_isSmallFloor x1 x2 (fun r7 u7 =>
    ((r7 = 0) →
    wpX11_held_b22 (upd f 2 (0 : Int32)) g K) ∧
  (¬ (r7 = 0) →
    wpX11_isIn x3 (0 : Int32) (1 : Int32) (fun r16 u16 =>
      (¬ (r16 = 0) →
      wpX11_laySmall (upd f 2 (0 : Int32)) g x1 x2 (fun u27 =>
        ∀ y39 : Int32, y39 = (((4 : Int32) * (x1 - (2 : Int32))) + x2) - (2 : Int32) → (¬ (x3 = 0) →
        vp_in y39 16 ∧ wpX11_held_b62 u27.1 u27.2 (u27.2 60 (ix y39)) K) ∧
      ((x3 = 0) →
        vp_in y39 16 ∧ wpX11_held_b62 u27.1 u27.2 (u27.2 59 (ix y39)) K))) ∧
    ((r16 = 0) →
      wpX11_held_b22 (upd f 2 (0 : Int32)) g K))))
def wpX11_held (f : Nat → Int32) (g : Nat → Nat → Int32) (x1 : Int32) (x2 : Int32) (x3 : Int32) (K : Int32 → ((Nat → Int32) × (Nat → Nat → Int32)) → Prop) : Prop := wpX11_held_b0 f g x1 x2 x3 K
def wpX11_longest_b22 (f : Nat → Int32) (g : Nat → Nat → Int32) (K : Int32 → ((Nat → Int32) × (Nat → Nat → Int32)) → Prop) : Prop :=
  K (-1 : Int32) (f, g)
def wpX11_longest_b77 (f : Nat → Int32) (g : Nat → Nat → Int32) (k0 : Int32) (K : Int32 → ((Nat → Int32) × (Nat → Nat → Int32)) → Prop) : Prop :=
  K k0 (f, g)
def wpX11_longest_b0 (f : Nat → Int32) (g : Nat → Nat → Int32) (x1 : Int32) (x2 : Int32) (x3 : Int32) (K : Int32 → ((Nat → Int32) × (Nat → Nat → Int32)) → Prop) : Prop :=
  wpX11_isSmallFloor x1 x2 (fun r7 u7 =>
    ((r7 = 0) →
    wpX11_longest_b22 (upd f 2 (0 : Int32)) g K) ∧
  (¬ (r7 = 0) →
    wpX11_isIn x3 (0 : Int32) (2 : Int32) (fun r16 u16 =>
      (¬ (r16 = 0) →
      wpX11_laySmall (upd f 2 (0 : Int32)) g x1 x2 (fun u27 =>
        ∀ y39 : Int32, y39 = (((4 : Int32) * (x1 - (2 : Int32))) + x2) - (2 : Int32) → (¬ (x3 = 0) →
        (¬ (x3 = (1 : Int32)) →
          vp_in y39 16 ∧ wpX11_longest_b77 u27.1 u27.2 (u27.2 63 (ix y39)) K) ∧
        ((x3 = (1 : Int32)) →
          vp_in y39 16 ∧ wpX11_longest_b77 u27.1 u27.2 (u27.2 62 (ix y39)) K)) ∧
      ((x3 = 0) →
        vp_in y39 16 ∧ wpX11_longest_b77 u27.1 u27.2 (u27.2 61 (ix y39)) K))) ∧
    ((r16 = 0) →
      wpX11_longest_b22 (upd f 2 (0 : Int32)) g K))))
def wpX11_longest (f : Nat → Int32) (g : Nat → Nat → Int32) (x1 : Int32) (x2 : Int32) (x3 : Int32) (K : Int32 → ((Nat → Int32) × (Nat → Nat → Int32)) → Prop) : Prop := wpX11_longest_b0 f g x1 x2 x3 K
def wpX11_isUnlike_b198 (f : Nat → Int32) (g : Nat → Nat → Int32) (k0 : Int32) (K : Int32 → ((Nat → Int32) × (Nat → Nat → Int32)) → Prop) : Prop :=
  isB k0 ∧ K k0 (f, g)
def wpX11_isUnlike_b193 (f : Nat → Int32) (g : Nat → Nat → Int32) (K : Int32 → ((Nat → Int32) × (Nat → Nat → Int32)) → Prop) : Prop :=
  wpX11_isUnlike_b198 f g (1 : Int32) K
def wpX11_isUnlike_b190 (f : Nat → Int32) (g : Nat → Nat → Int32) (k0 : Int32) (k1 : Int32) (K : Int32 → ((Nat → Int32) × (Nat → Nat → Int32)) → Prop) : Prop :=
  ((k0 = k1) →
    wpX11_isUnlike_b198 f g (0 : Int32) K) ∧
  (¬ (k0 = k1) →
    wpX11_isUnlike_b193 f g K)
def wpX11_isUnlike_b156 (f : Nat → Int32) (g : Nat → Nat → Int32) (x3 : Int32) (x4 : Int32) (x5 : Int32) (x6 : Int32) (K : Int32 → ((Nat → Int32) × (Nat → Nat → Int32)) → Prop) : Prop :=
  (¬ (x6 = 0) →
    wpX11_isUnlike_b193 (upd f 52 (-1 : Int32)) g K) ∧
  ((x6 = 0) →
    (¬ (x5 = x3) →
      wpX11_isUnlike_b193 (upd f 52 (-1 : Int32)) g K) ∧
    ((x5 = x3) →
      (¬ ((f 41) = (f 40)) →
        wpX11_isUnlike_b190 (upd f 52 (-1 : Int32)) g x4 (0 : Int32) K) ∧
      (((f 41) = (f 40)) →
        wpX11_isUnlike_b190 (upd f 52 (-1 : Int32)) g x4 (1 : Int32) K)))
def wpX11_isUnlike_b148 (B87 : (Nat → Int32) → (Nat → Nat → Int32) → Int32 → Int32 → Int32 → Int32 → Prop) (f : Nat → Int32) (g : Nat → Nat → Int32) (k0 : Int32) (x3 : Int32) (x4 : Int32) (x5 : Int32) (K : Int32 → ((Nat → Int32) × (Nat → Nat → Int32)) → Prop) : Prop :=
  B87 f g x3 x4 (x5 + (1 : Int32)) k0
def wpX11_isUnlike_b143 (B87 : (Nat → Int32) → (Nat → Nat → Int32) → Int32 → Int32 → Int32 → Int32 → Prop) (f : Nat → Int32) (g : Nat → Nat → Int32) (x3 : Int32) (x4 : Int32) (x5 : Int32) (K : Int32 → ((Nat → Int32) × (Nat → Nat → Int32)) → Prop) : Prop :=
  wpX11_isUnlike_b148 B87 f g (1 : Int32) x3 x4 x5 K
def wpX11_isUnlike_b87_body (B87 : (Nat → Int32) → (Nat → Nat → Int32) → Int32 → Int32 → Int32 → Int32 → Prop) (f : Nat → Int32) (g : Nat → Nat → Int32) (x3 : Int32) (x4 : Int32) (x5 : Int32) (x6 : Int32) (K : Int32 → ((Nat → Int32) × (Nat → Nat → Int32)) → Prop) : Prop :=
  (((100 : Int32) ≤ x5) →
    wpX11_isUnlike_b156 f g x3 x4 x5 x6 K) ∧
  (¬ ((100 : Int32) ≤ x5) →
    (((f 41) = (f 40)) →
      wpX11_isUnlike_b156 f g x3 x4 x5 x6 K) ∧
    (¬ ((f 41) = (f 40)) →
      (¬ (x6 = 0) →
        wpX11_isUnlike_b156 f g x3 x4 x5 x6 K) ∧
      ((x6 = 0) →
        wpX11_ticks f g  (fun r111 u111 =>
          ((x3 ≤ x5) →
          wpX11_isUnlike_b143 B87 u111.1 u111.2 x3 x4 x5 K) ∧
        (¬ (x3 ≤ x5) →
          vp_in x5 100 ∧ (((u111.2 64 (ix x5)) = (((4 : Int32) * (u111.1 41)) + (u111.1 42))) →
            wpX11_isUnlike_b148 B87 u111.1 u111.2 (0 : Int32) x3 x4 x5 K) ∧
          (¬ ((u111.2 64 (ix x5)) = (((4 : Int32) * (u111.1 41)) + (u111.1 42))) →
            wpX11_isUnlike_b143 B87 u111.1 u111.2 x3 x4 x5 K))))))
def wpX11_isUnlike_b87 (n_ : Nat) (f : Nat → Int32) (g : Nat → Nat → Int32) (x3 : Int32) (x4 : Int32) (x5 : Int32) (x6 : Int32) (K : Int32 → ((Nat → Int32) × (Nat → Nat → Int32)) → Prop) : Prop := match n_ with
  | 0 => False
  | n + 1 => wpX11_isUnlike_b87_body (fun f g x3 x4 x5 x6 => wpX11_isUnlike_b87 n f g x3 x4 x5 x6 K) f g x3 x4 x5 x6 K
def wpX11_isUnlike_b69 (f : Nat → Int32) (g : Nat → Nat → Int32) (k0 : Int32) (x1 : Int32) (x2 : Int32) (x3 : Int32) (K : Int32 → ((Nat → Int32) × (Nat → Nat → Int32)) → Prop) : Prop :=
  wpX11_setDown f g x1 (fun u73 =>
    ∃ n, wpX11_isUnlike_b87 n (upd u73.1 52 x2) u73.2 x3 k0 (0 : Int32) (0 : Int32) K)
def wpX11_isUnlike_b53 (f : Nat → Int32) (g : Nat → Nat → Int32) (x1 : Int32) (x2 : Int32) (x3 : Int32) (K : Int32 → ((Nat → Int32) × (Nat → Nat → Int32)) → Prop) : Prop :=
  (¬ ((f 41) = (f 40)) →
    wpX11_isUnlike_b69 f g (0 : Int32) x1 x2 x3 K) ∧
  (((f 41) = (f 40)) →
    wpX11_isUnlike_b69 f g (1 : Int32) x1 x2 x3 K)
def wpX11_isUnlike_b7_body (B7 : (Nat → Int32) → (Nat → Nat → Int32) → Int32 → Int32 → Int32 → Prop) (f : Nat → Int32) (g : Nat → Nat → Int32) (x1 : Int32) (x2 : Int32) (x3 : Int32) (K : Int32 → ((Nat → Int32) × (Nat → Nat → Int32)) → Prop) : Prop :=
  (((100 : Int32) ≤ x3) →
    wpX11_isUnlike_b53 f g x1 x2 x3 K) ∧
  (¬ ((100 : Int32) ≤ x3) →
    (((f 41) = (f 40)) →
      wpX11_isUnlike_b53 f g x1 x2 x3 K) ∧
    (¬ ((f 41) = (f 40)) →
      wpX11_ticks f g  (fun r25 u25 =>
        vp_in x3 100 ∧ B7 u25.1 (pt u25.2 64 (ix x3) (((4 : Int32) * (u25.1 41)) + (u25.1 42))) x1 x2 (x3 + (1 : Int32)))))
def wpX11_isUnlike_b7 (n_ : Nat) (f : Nat → Int32) (g : Nat → Nat → Int32) (x1 : Int32) (x2 : Int32) (x3 : Int32) (K : Int32 → ((Nat → Int32) × (Nat → Nat → Int32)) → Prop) : Prop := match n_ with
  | 0 => False
  | n + 1 => wpX11_isUnlike_b7_body (fun f g x1 x2 x3 => wpX11_isUnlike_b7 n f g x1 x2 x3 K) f g x1 x2 x3 K
def wpX11_isUnlike_b0 (f : Nat → Int32) (g : Nat → Nat → Int32) (x1 : Int32) (x2 : Int32) (K : Int32 → ((Nat → Int32) × (Nat → Nat → Int32)) → Prop) : Prop :=
  wpX11_setDown f g x1 (fun u2 =>
    ∃ n, wpX11_isUnlike_b7 n u2.1 u2.2 x1 x2 (0 : Int32) K)
def wpX11_isUnlike (f : Nat → Int32) (g : Nat → Nat → Int32) (x1 : Int32) (x2 : Int32) (K : Int32 → ((Nat → Int32) × (Nat → Nat → Int32)) → Prop) : Prop := wpX11_isUnlike_b0 f g x1 x2 K
def wpX11_needs_b22 (f : Nat → Int32) (g : Nat → Nat → Int32) (K : Int32 → ((Nat → Int32) × (Nat → Nat → Int32)) → Prop) : Prop :=
  K (-1 : Int32) (f, g)
def wpX11_needs_b135 (f : Nat → Int32) (g : Nat → Nat → Int32) (k0 : Int32) (K : Int32 → ((Nat → Int32) × (Nat → Nat → Int32)) → Prop) : Prop :=
  K k0 (f, g)
def wpX11_needs_b120 (f : Nat → Int32) (g : Nat → Nat → Int32) (x4 : Int32) (K : Int32 → ((Nat → Int32) × (Nat → Nat → Int32)) → Prop) : Prop :=
  wpX11_takes f g (4 : Int32) (fun u122 =>
    ((x4 = 0) →
    wpX11_needs_b135 u122.1 u122.2 (0 : Int32) K) ∧
  (¬ (x4 = 0) →
    wpX11_needs_b135 u122.1 u122.2 (1 : Int32) K))
def wpX11_needs_b114 (B41 : (Nat → Int32) → (Nat → Nat → Int32) → Int32 → Int32 → Int32 → Prop) (f : Nat → Int32) (g : Nat → Nat → Int32) (x1 : Int32) (x4 : Int32) (x5 : Int32) (K : Int32 → ((Nat → Int32) × (Nat → Nat → Int32)) → Prop) : Prop :=
  B41 f g x1 x4 (x5 + (1 : Int32))
def wpX11_needs_b106 (B41 : (Nat → Int32) → (Nat → Nat → Int32) → Int32 → Int32 → Int32 → Prop) (B66 : (Nat → Int32) → (Nat → Nat → Int32) → Int32 → Int32 → Int32 → Int32 → Prop) (f : Nat → Int32) (g : Nat → Nat → Int32) (k0 : Int32) (x1 : Int32) (x5 : Int32) (x6 : Int32) (K : Int32 → ((Nat → Int32) × (Nat → Nat → Int32)) → Prop) : Prop :=
  B66 f g x1 k0 x5 (x6 + (1 : Int32))
def wpX11_needs_b105 (B41 : (Nat → Int32) → (Nat → Nat → Int32) → Int32 → Int32 → Int32 → Prop) (B66 : (Nat → Int32) → (Nat → Nat → Int32) → Int32 → Int32 → Int32 → Int32 → Prop) (f : Nat → Int32) (g : Nat → Nat → Int32) (x1 : Int32) (x5 : Int32) (x6 : Int32) (K : Int32 → ((Nat → Int32) × (Nat → Nat → Int32)) → Prop) : Prop :=
  wpX11_needs_b106 B41 B66 f g (0 : Int32) x1 x5 x6 K
def wpX11_needs_b66_body (B41 : (Nat → Int32) → (Nat → Nat → Int32) → Int32 → Int32 → Int32 → Prop) (B66 : (Nat → Int32) → (Nat → Nat → Int32) → Int32 → Int32 → Int32 → Int32 → Prop) (f : Nat → Int32) (g : Nat → Nat → Int32) (x1 : Int32) (x4 : Int32) (x5 : Int32) (x6 : Int32) (K : Int32 → ((Nat → Int32) × (Nat → Nat → Int32)) → Prop) : Prop :=
  wpX11_squares f g  (fun r69 u69 =>
    ((r69 ≤ x6) →
    wpX11_needs_b114 B41 u69.1 u69.2 x1 x4 x5 K) ∧
  (¬ (r69 ≤ x6) →
    (¬ (x4 = 0) →
      wpX11_needs_b114 B41 u69.1 u69.2 x1 x4 x5 K) ∧
    ((x4 = 0) →
      vp_in x6 36 ∧ (((u69.2 54 (ix x6)) = (-1 : Int32)) →
        wpX11_needs_b105 B41 B66 u69.1 u69.2 x1 x5 x6 K) ∧
      (¬ ((u69.2 54 (ix x6)) = (-1 : Int32)) →
        wpX11_isUnlike u69.1 u69.2 x6 x1 (fun r95 u95 =>
          ((r95 = 0) →
          wpX11_needs_b105 B41 B66 u95.1 u95.2 x1 x5 x6 K) ∧
        (¬ (r95 = 0) →
          wpX11_needs_b106 B41 B66 u95.1 u95.2 (1 : Int32) x1 x5 x6 K))))))
def wpX11_needs_b66 (B41 : (Nat → Int32) → (Nat → Nat → Int32) → Int32 → Int32 → Int32 → Prop) (n_ : Nat) (f : Nat → Int32) (g : Nat → Nat → Int32) (x1 : Int32) (x4 : Int32) (x5 : Int32) (x6 : Int32) (K : Int32 → ((Nat → Int32) × (Nat → Nat → Int32)) → Prop) : Prop := match n_ with
  | 0 => False
  | n + 1 => wpX11_needs_b66_body B41 (fun f g x1 x4 x5 x6 => wpX11_needs_b66 B41 n f g x1 x4 x5 x6 K) f g x1 x4 x5 x6 K
def wpX11_needs_b41_body (B41 : (Nat → Int32) → (Nat → Nat → Int32) → Int32 → Int32 → Int32 → Prop) (f : Nat → Int32) (g : Nat → Nat → Int32) (x1 : Int32) (x4 : Int32) (x5 : Int32) (K : Int32 → ((Nat → Int32) × (Nat → Nat → Int32)) → Prop) : Prop :=
  wpX11_wallMany f g  (fun r45 u45 =>
    (((jshl (1 : Int32) r45) ≤ x5) →
    wpX11_needs_b120 u45.1 u45.2 x4 K) ∧
  (¬ ((jshl (1 : Int32) r45) ≤ x5) →
    (¬ (x4 = 0) →
      wpX11_needs_b120 u45.1 u45.2 x4 K) ∧
    ((x4 = 0) →
      wpX11_wallsBy u45.1 u45.2 x5 (fun u60 =>
        ∃ n, wpX11_needs_b66 B41 n u60.1 u60.2 x1 x4 x5 (0 : Int32) K))))
def wpX11_needs_b41 (n_ : Nat) (f : Nat → Int32) (g : Nat → Nat → Int32) (x1 : Int32) (x4 : Int32) (x5 : Int32) (K : Int32 → ((Nat → Int32) × (Nat → Nat → Int32)) → Prop) : Prop := match n_ with
  | 0 => False
  | n + 1 => wpX11_needs_b41_body (fun f g x1 x4 x5 => wpX11_needs_b41 n f g x1 x4 x5 K) f g x1 x4 x5 K
def wpX11_needs_b0 (f : Nat → Int32) (g : Nat → Nat → Int32) (x1 : Int32) (x2 : Int32) (x3 : Int32) (K : Int32 → ((Nat → Int32) × (Nat → Nat → Int32)) → Prop) : Prop :=
  wpX11_isIn x1 (0 : Int32) (2 : Int32) (fun r8 u8 =>
    ((r8 = 0) →
    wpX11_needs_b22 (upd f 2 (0 : Int32)) g K) ∧
  (¬ (r8 = 0) →
    wpX11_isSmallFloor x2 x3 (fun r16 u16 =>
      (¬ (r16 = 0) →
      wpX11_puts (upd f 2 (0 : Int32)) g (4 : Int32) (fun u26 =>
        wpX11_small u26.1 u26.2 x2 x3 (fun u32 =>
        ∃ n, wpX11_needs_b41 n u32.1 u32.2 x1 (0 : Int32) (0 : Int32) K))) ∧
    ((r16 = 0) →
      wpX11_needs_b22 (upd f 2 (0 : Int32)) g K))))
def wpX11_needs (f : Nat → Int32) (g : Nat → Nat → Int32) (x1 : Int32) (x2 : Int32) (x3 : Int32) (K : Int32 → ((Nat → Int32) × (Nat → Nat → Int32)) → Prop) : Prop := wpX11_needs_b0 f g x1 x2 x3 K
def wpX11_knows_b47 (f : Nat → Int32) (g : Nat → Nat → Int32) (K : Int32 → ((Nat → Int32) × (Nat → Nat → Int32)) → Prop) : Prop :=
  K (-1 : Int32) (f, g)
def wpX11_knows_b19_body (B19 : (Nat → Int32) → (Nat → Nat → Int32) → Int32 → Int32 → Prop) (f : Nat → Int32) (g : Nat → Nat → Int32) (x2 : Int32) (x3 : Int32) (K : Int32 → ((Nat → Int32) × (Nat → Nat → Int32)) → Prop) : Prop :=
  ((x2 = (f 40)) →
    K x3 (f, g)) ∧
  (¬ (x2 = (f 40)) →
    vp_in x2 36 ∧ wpX11_isWall f g x2 (g 47 (ix x2)) (fun r35 u35 =>
      (¬ (r35 = 0) →
      wpX11_knows_b47 u35.1 u35.2 K) ∧
    ((r35 = 0) →
      ((x3 ≤ (36 : Int32)) →
        vp_in x2 36 ∧ wpX11_ahead u35.1 u35.2 x2 (u35.2 47 (ix x2)) (fun r57 u57 =>
          B19 u57.1 u57.2 r57 (x3 + (1 : Int32)))) ∧
      (¬ (x3 ≤ (36 : Int32)) →
        wpX11_knows_b47 u35.1 u35.2 K))))
def wpX11_knows_b19 (n_ : Nat) (f : Nat → Int32) (g : Nat → Nat → Int32) (x2 : Int32) (x3 : Int32) (K : Int32 → ((Nat → Int32) × (Nat → Nat → Int32)) → Prop) : Prop := match n_ with
  | 0 => False
  | n + 1 => wpX11_knows_b19_body (fun f g x2 x3 => wpX11_knows_b19 n f g x2 x3 K) f g x2 x3 K
def wpX11_knows_b0 (f : Nat → Int32) (g : Nat → Nat → Int32) (x1 : Int32) (K : Int32 → ((Nat → Int32) × (Nat → Nat → Int32)) → Prop) : Prop :=
  wpX11_isSquare (upd f 2 (0 : Int32)) g x1 (fun r7 u7 =>
    (¬ (r7 = 0) →
    ∃ n, wpX11_knows_b19 n u7.1 u7.2 x1 (0 : Int32) K) ∧
  ((r7 = 0) →
    K (-1 : Int32) (u7.1, u7.2)))
def wpX11_knows (f : Nat → Int32) (g : Nat → Nat → Int32) (x1 : Int32) (K : Int32 → ((Nat → Int32) × (Nat → Nat → Int32)) → Prop) : Prop := wpX11_knows_b0 f g x1 K
def wpX11_felt_b77 (f : Nat → Int32) (g : Nat → Nat → Int32) (k0 : Int32) (k1 : Int32) (K : Int32 → ((Nat → Int32) × (Nat → Nat → Int32)) → Prop) : Prop :=
  K (k0 ||| k1) (f, g)
def wpX11_felt_b57 (f : Nat → Int32) (g : Nat → Nat → Int32) (k0 : Int32) (k1 : Int32) (K : Int32 → ((Nat → Int32) × (Nat → Nat → Int32)) → Prop) : Prop :=
  vp_in (f 41) 36 ∧ (((g 47 (ix (f 41))) ≤ (1 : Int32)) →
    wpX11_felt_b77 f g (k0 ||| k1) (0 : Int32) K) ∧
  (¬ ((g 47 (ix (f 41))) ≤ (1 : Int32)) →
    wpX11_felt_b77 f g (k0 ||| k1) (8 : Int32) K)
def wpX11_felt_b36 (f : Nat → Int32) (g : Nat → Nat → Int32) (k0 : Int32) (k1 : Int32) (K : Int32 → ((Nat → Int32) × (Nat → Nat → Int32)) → Prop) : Prop :=
  vp_in (f 41) 36 ∧ (¬ ((jrem (g 47 (ix (f 41))) (2 : Int32)) = (1 : Int32)) →
    wpX11_felt_b57 f g (k0 ||| k1) (0 : Int32) K) ∧
  (((jrem (g 47 (ix (f 41))) (2 : Int32)) = (1 : Int32)) →
    wpX11_felt_b57 f g (k0 ||| k1) (4 : Int32) K)
def wpX11_felt_b20 (f : Nat → Int32) (g : Nat → Nat → Int32) (k0 : Int32) (K : Int32 → ((Nat → Int32) × (Nat → Nat → Int32)) → Prop) : Prop :=
  (¬ ((f 41) = (f 40)) →
    wpX11_felt_b36 f g k0 (0 : Int32) K) ∧
  (((f 41) = (f 40)) →
    wpX11_felt_b36 f g k0 (2 : Int32) K)
def wpX11_felt_b0 (f : Nat → Int32) (g : Nat → Nat → Int32) (K : Int32 → ((Nat → Int32) × (Nat → Nat → Int32)) → Prop) : Prop :=
  wpX11_isWall f g (f 41) (f 42) (fun r9 u9 =>
    ((r9 = 0) →
    wpX11_felt_b20 u9.1 u9.2 (0 : Int32) K) ∧
  (¬ (r9 = 0) →
    wpX11_felt_b20 u9.1 u9.2 (1 : Int32) K))
def wpX11_felt (f : Nat → Int32) (g : Nat → Nat → Int32) (K : Int32 → ((Nat → Int32) × (Nat → Nat → Int32)) → Prop) : Prop := wpX11_felt_b0 f g K
def wpX11_works_b257 (f : Nat → Int32) (g : Nat → Nat → Int32) (k0 : Int32) (K : Int32 → ((Nat → Int32) × (Nat → Nat → Int32)) → Prop) : Prop :=
  isB k0 ∧ K k0 (f, g)
def wpX11_works_b256 (f : Nat → Int32) (g : Nat → Nat → Int32) (K : Int32 → ((Nat → Int32) × (Nat → Nat → Int32)) → Prop) : Prop :=
  wpX11_works_b257 f g (0 : Int32) K
def wpX11_works_b215 (B8 : (Nat → Int32) → (Nat → Nat → Int32) → Int32 → Int32 → Int32 → Int32 → Prop) (f : Nat → Int32) (g : Nat → Nat → Int32) (x1 : Int32) (x2 : Int32) (x3 : Int32) (x4 : Int32) (K : Int32 → ((Nat → Int32) × (Nat → Nat → Int32)) → Prop) : Prop :=
  B8 f g x1 x2 x3 (x4 + (1 : Int32))
def wpX11_works_b103 (B8 : (Nat → Int32) → (Nat → Nat → Int32) → Int32 → Int32 → Int32 → Int32 → Prop) (f : Nat → Int32) (g : Nat → Nat → Int32) (k1 : Int32) (k2 : Int32) (x1 : Int32) (x2 : Int32) (x3 : Int32) (x4 : Int32) (K : Int32 → ((Nat → Int32) × (Nat → Nat → Int32)) → Prop) : Prop :=
  vp_in k1 64 ∧ wpX11_works_b215 B8 f (pt g 65 (ix k1) (vp_nar .boolean k2)) x1 x2 x3 x4 K
def wpX11_works_b148 (B8 : (Nat → Int32) → (Nat → Nat → Int32) → Int32 → Int32 → Int32 → Int32 → Prop) (f : Nat → Int32) (g : Nat → Nat → Int32) (k1 : Int32) (k2 : Int32) (x1 : Int32) (x2 : Int32) (x3 : Int32) (x4 : Int32) (K : Int32 → ((Nat → Int32) × (Nat → Nat → Int32)) → Prop) : Prop :=
  vp_in k1 64 ∧ wpX11_works_b215 B8 f (pt g 65 (ix k1) (vp_nar .boolean k2)) x1 x2 x3 x4 K
def wpX11_works_b147 (B8 : (Nat → Int32) → (Nat → Nat → Int32) → Int32 → Int32 → Int32 → Int32 → Prop) (f : Nat → Int32) (g : Nat → Nat → Int32) (k1 : Int32) (x1 : Int32) (x2 : Int32) (x3 : Int32) (x4 : Int32) (K : Int32 → ((Nat → Int32) × (Nat → Nat → Int32)) → Prop) : Prop :=
  wpX11_works_b148 B8 f g k1 (0 : Int32) x1 x2 x3 x4 K
def wpX11_works_b193 (B8 : (Nat → Int32) → (Nat → Nat → Int32) → Int32 → Int32 → Int32 → Int32 → Prop) (f : Nat → Int32) (g : Nat → Nat → Int32) (k1 : Int32) (k2 : Int32) (x1 : Int32) (x2 : Int32) (x3 : Int32) (x4 : Int32) (K : Int32 → ((Nat → Int32) × (Nat → Nat → Int32)) → Prop) : Prop :=
  vp_in k1 64 ∧ wpX11_works_b215 B8 f (pt g 65 (ix k1) (vp_nar .boolean k2)) x1 x2 x3 x4 K
def wpX11_works_b188 (B8 : (Nat → Int32) → (Nat → Nat → Int32) → Int32 → Int32 → Int32 → Int32 → Prop) (f : Nat → Int32) (g : Nat → Nat → Int32) (k1 : Int32) (x1 : Int32) (x2 : Int32) (x3 : Int32) (x4 : Int32) (K : Int32 → ((Nat → Int32) × (Nat → Nat → Int32)) → Prop) : Prop :=
  wpX11_works_b193 B8 f g k1 (1 : Int32) x1 x2 x3 x4 K
def wpX11_works_b8_body (B8 : (Nat → Int32) → (Nat → Nat → Int32) → Int32 → Int32 → Int32 → Int32 → Prop) (f : Nat → Int32) (g : Nat → Nat → Int32) (x1 : Int32) (x2 : Int32) (x3 : Int32) (x4 : Int32) (K : Int32 → ((Nat → Int32) × (Nat → Nat → Int32)) → Prop) : Prop :=
  vp_in x1 48 ∧ (((g 26 (ix x1)) ≤ x4) →
    vp_in x1 48 ∧ vp_in x1 48 ∧ (((g 26 (ix x1)) ≤ (g 25 (ix x1))) →
      wpX11_works_b256 f g K) ∧
    (¬ ((g 26 (ix x1)) ≤ (g 25 (ix x1))) →
      vp_in x1 48 ∧ vp_in ((g 26 (ix x1)) - (1 : Int32)) 64 ∧ (((g 65 (ix ((g 26 (ix x1)) - (1 : Int32)))) = 0) →
        wpX11_works_b256 f g K) ∧
      (¬ ((g 65 (ix ((g 26 (ix x1)) - (1 : Int32)))) = 0) →
        wpX11_works_b257 f g (1 : Int32) K))) ∧
  (¬ ((g 26 (ix x1)) ≤ x4) →
    vp_in x4 128 ∧ ((g 27 (ix x4)) = (4 : Int32) →
      vp_in x4 128 ∧ wpX11_isOf x2 (g 28 (ix x4)) (fun r70 u70 =>
          vp_in x4 64 ∧ wpX11_works_b215 B8 f (pt g 65 (ix x4) (vp_nar .boolean r70)) x1 x2 x3 x4 K)) ∧
    ((g 27 (ix x4)) = (5 : Int32) →
      vp_in x4 128 ∧ vp_in (g 28 (ix x4)) 64 ∧ (¬ ((g 65 (ix (g 28 (ix x4)))) = 0) →
          wpX11_works_b103 B8 f g x4 (0 : Int32) x1 x2 x3 x4 K) ∧
        (((g 65 (ix (g 28 (ix x4)))) = 0) →
          wpX11_works_b103 B8 f g x4 (1 : Int32) x1 x2 x3 x4 K)) ∧
    ((g 27 (ix x4)) = (6 : Int32) →
      vp_in x4 128 ∧ vp_in (g 28 (ix x4)) 64 ∧ (((g 65 (ix (g 28 (ix x4)))) = 0) →
          wpX11_works_b147 B8 f g x4 x1 x2 x3 x4 K) ∧
        (¬ ((g 65 (ix (g 28 (ix x4)))) = 0) →
          vp_in x4 128 ∧ vp_in (g 29 (ix x4)) 64 ∧ (((g 65 (ix (g 29 (ix x4)))) = 0) →
            wpX11_works_b147 B8 f g x4 x1 x2 x3 x4 K) ∧
          (¬ ((g 65 (ix (g 29 (ix x4)))) = 0) →
            wpX11_works_b148 B8 f g x4 (1 : Int32) x1 x2 x3 x4 K))) ∧
    ((g 27 (ix x4)) = (7 : Int32) →
      vp_in x4 128 ∧ vp_in (g 28 (ix x4)) 64 ∧ (¬ ((g 65 (ix (g 28 (ix x4)))) = 0) →
          wpX11_works_b188 B8 f g x4 x1 x2 x3 x4 K) ∧
        (((g 65 (ix (g 28 (ix x4)))) = 0) →
          vp_in x4 128 ∧ vp_in (g 29 (ix x4)) 64 ∧ (((g 65 (ix (g 29 (ix x4)))) = 0) →
            wpX11_works_b193 B8 f g x4 (0 : Int32) x1 x2 x3 x4 K) ∧
          (¬ ((g 65 (ix (g 29 (ix x4)))) = 0) →
            wpX11_works_b188 B8 f g x4 x1 x2 x3 x4 K))) ∧
    ((g 27 (ix x4)).toInt < 4 ∨ 7 < (g 27 (ix x4)).toInt →
      vp_in x4 128 ∧ wpX11_isOf x3 (g 27 (ix x4)) (fun r211 u211 =>
        vp_in x4 64 ∧ wpX11_works_b215 B8 f (pt g 65 (ix x4) (vp_nar .boolean r211)) x1 x2 x3 x4 K)))
def wpX11_works_b8 (n_ : Nat) (f : Nat → Int32) (g : Nat → Nat → Int32) (x1 : Int32) (x2 : Int32) (x3 : Int32) (x4 : Int32) (K : Int32 → ((Nat → Int32) × (Nat → Nat → Int32)) → Prop) : Prop := match n_ with
  | 0 => False
  | n + 1 => wpX11_works_b8_body (fun f g x1 x2 x3 x4 => wpX11_works_b8 n f g x1 x2 x3 x4 K) f g x1 x2 x3 x4 K
def wpX11_works_b0 (f : Nat → Int32) (g : Nat → Nat → Int32) (x1 : Int32) (x2 : Int32) (x3 : Int32) (K : Int32 → ((Nat → Int32) × (Nat → Nat → Int32)) → Prop) : Prop :=
  vp_in x1 48 ∧ ∃ n, wpX11_works_b8 n f g x1 x2 x3 (g 25 (ix x1)) K
def wpX11_works (f : Nat → Int32) (g : Nat → Nat → Int32) (x1 : Int32) (x2 : Int32) (x3 : Int32) (K : Int32 → ((Nat → Int32) × (Nat → Nat → Int32)) → Prop) : Prop := wpX11_works_b0 f g x1 x2 x3 K
def wpX11_pulls_b172 (f : Nat → Int32) (g : Nat → Nat → Int32) (K : ((Nat → Int32) × (Nat → Nat → Int32)) → Prop) : Prop :=
  K (f, g)
def wpX11_pulls_b163 (f : Nat → Int32) (g : Nat → Nat → Int32) (x5 : Int32) (K : ((Nat → Int32) × (Nat → Nat → Int32)) → Prop) : Prop :=
  ((x5 = 0) →
    wpX11_pulls_b172 f g K) ∧
  (¬ (x5 = 0) →
    wpX11_goes f g  (fun u169 =>
      wpX11_pulls_b172 u169.1 u169.2 K))
def wpX11_pulls_b146 (f : Nat → Int32) (g : Nat → Nat → Int32) (x4 : Int32) (x5 : Int32) (K : ((Nat → Int32) × (Nat → Nat → Int32)) → Prop) : Prop :=
  ((x4 = 0) →
    wpX11_pulls_b163 f g x5 K) ∧
  (¬ (x4 = 0) →
    wpX11_pulls_b163 (upd f 42 (jrem ((f 42) + (1 : Int32)) (4 : Int32))) g x5 K)
def wpX11_pulls_b101 (f : Nat → Int32) (g : Nat → Nat → Int32) (x1 : Int32) (x2 : Int32) (K : ((Nat → Int32) × (Nat → Nat → Int32)) → Prop) : Prop :=
  wpX11_works f g (21 : Int32) x2 x1 (fun r106 u106 =>
    wpX11_works u106.1 u106.2 (22 : Int32) x2 x1 (fun r115 u115 =>
    wpX11_works u115.1 u115.2 (20 : Int32) x2 x1 (fun r125 u125 =>
    ((r106 = 0) →
    wpX11_pulls_b146 u125.1 u125.2 r115 r125 K) ∧
  (¬ (r106 = 0) →
    wpX11_pulls_b146 (upd u125.1 42 (jrem ((u125.1 42) + (3 : Int32)) (4 : Int32))) u125.2 r115 r125 K))))
def wpX11_pulls_b64 (B9 : (Nat → Int32) → (Nat → Nat → Int32) → Int32 → Int32 → Int32 → Prop) (f : Nat → Int32) (g : Nat → Nat → Int32) (k0 : Int32) (k1 : Int32) (x1 : Int32) (x3 : Int32) (K : ((Nat → Int32) × (Nat → Nat → Int32)) → Prop) : Prop :=
  B9 f g x1 (k0 ||| k1) (x3 + (1 : Int32))
def wpX11_pulls_b49 (B9 : (Nat → Int32) → (Nat → Nat → Int32) → Int32 → Int32 → Int32 → Prop) (f : Nat → Int32) (g : Nat → Nat → Int32) (k0 : Int32) (x1 : Int32) (x2 : Int32) (x3 : Int32) (K : ((Nat → Int32) × (Nat → Nat → Int32)) → Prop) : Prop :=
  ((k0 = 0) →
    wpX11_pulls_b64 B9 f g x2 (0 : Int32) x1 x3 K) ∧
  (¬ (k0 = 0) →
    wpX11_pulls_b64 B9 f g x2 (jshl (1 : Int32) x3) x1 x3 K)
def wpX11_pulls_b9_body (B9 : (Nat → Int32) → (Nat → Nat → Int32) → Int32 → Int32 → Int32 → Prop) (f : Nat → Int32) (g : Nat → Nat → Int32) (x1 : Int32) (x2 : Int32) (x3 : Int32) (K : ((Nat → Int32) × (Nat → Nat → Int32)) → Prop) : Prop :=
  (((f 20) ≤ x3) →
    wpX11_works (upd f 45 x2) g (23 : Int32) x2 x1 (fun r82 u82 =>
      ((r82 = 0) →
      wpX11_pulls_b101 u82.1 u82.2 x1 x2 K) ∧
    (¬ (r82 = 0) →
      vp_in (u82.1 41) 36 ∧ wpX11_pulls_b101 u82.1 (pt u82.2 47 (ix (u82.1 41)) (u82.1 42)) x1 x2 K))) ∧
  (¬ ((f 20) ≤ x3) →
    wpX11_isOf (f 49) x3 (fun r22 u22 =>
      ((r22 = 0) →
      wpX11_works f g x3 (f 45) x1 (fun r46 u46 =>
        wpX11_pulls_b49 B9 u46.1 u46.2 r46 x1 x2 x3 K)) ∧
    (¬ (r22 = 0) →
      wpX11_isOf (f 50) x3 (fun r33 u33 =>
        wpX11_pulls_b49 B9 f g r33 x1 x2 x3 K))))
def wpX11_pulls_b9 (n_ : Nat) (f : Nat → Int32) (g : Nat → Nat → Int32) (x1 : Int32) (x2 : Int32) (x3 : Int32) (K : ((Nat → Int32) × (Nat → Nat → Int32)) → Prop) : Prop := match n_ with
  | 0 => False
  | n + 1 => wpX11_pulls_b9_body (fun f g x1 x2 x3 => wpX11_pulls_b9 n f g x1 x2 x3 K) f g x1 x2 x3 K
def wpX11_pulls_b0 (f : Nat → Int32) (g : Nat → Nat → Int32) (K : ((Nat → Int32) × (Nat → Nat → Int32)) → Prop) : Prop :=
  wpX11_felt f g  (fun r1 u1 =>
    ∃ n, wpX11_pulls_b9 n u1.1 u1.2 r1 (0 : Int32) (0 : Int32) K)
def wpX11_pulls (f : Nat → Int32) (g : Nat → Nat → Int32) (K : ((Nat → Int32) × (Nat → Nat → Int32)) → Prop) : Prop := wpX11_pulls_b0 f g K
def wpX11_pullsTold_b0 (f : Nat → Int32) (g : Nat → Nat → Int32) (K : ((Nat → Int32) × (Nat → Nat → Int32)) → Prop) : Prop :=
  wpX11_felt f g  (fun r2 u2 =>
    wpX11_pulls (upd (upd u2.1 69 r2) 67 (u2.1 45)) u2.2  (fun u17 =>
    K (upd (upd u17.1 68 (u17.1 45)) 66 (1 : Int32), u17.2)))
def wpX11_pullsTold (f : Nat → Int32) (g : Nat → Nat → Int32) (K : ((Nat → Int32) × (Nat → Nat → Int32)) → Prop) : Prop := wpX11_pullsTold_b0 f g K
def wpX11_pull_b25_body (B25 : (Nat → Int32) → (Nat → Nat → Int32) → Int32 → Int32 → Prop) (f : Nat → Int32) (g : Nat → Nat → Int32) (x1 : Int32) (x2 : Int32) (K : Int32 → ((Nat → Int32) × (Nat → Nat → Int32)) → Prop) : Prop :=
  ((x1 ≤ x2) →
    K (f 53) (f, g)) ∧
  (¬ (x1 ≤ x2) →
    wpX11_pullsTold f g  (fun u31 =>
      B25 u31.1 u31.2 x1 (x2 + (1 : Int32))))
def wpX11_pull_b25 (n_ : Nat) (f : Nat → Int32) (g : Nat → Nat → Int32) (x1 : Int32) (x2 : Int32) (K : Int32 → ((Nat → Int32) × (Nat → Nat → Int32)) → Prop) : Prop := match n_ with
  | 0 => False
  | n + 1 => wpX11_pull_b25_body (fun f g x1 x2 => wpX11_pull_b25 n f g x1 x2 K) f g x1 x2 K
def wpX11_pull_b0 (f : Nat → Int32) (g : Nat → Nat → Int32) (x1 : Int32) (K : Int32 → ((Nat → Int32) × (Nat → Nat → Int32)) → Prop) : Prop :=
  wpX11_isIn x1 (0 : Int32) (5000 : Int32) (fun r10 u10 =>
    (¬ (r10 = 0) →
    ∃ n, wpX11_pull_b25 n (upd (upd f 2 (0 : Int32)) 53 (0 : Int32)) g x1 (0 : Int32) K) ∧
  ((r10 = 0) →
    K (-1 : Int32) (upd f 2 (0 : Int32), g)))
def wpX11_pull (f : Nat → Int32) (g : Nat → Nat → Int32) (x1 : Int32) (K : Int32 → ((Nat → Int32) × (Nat → Nat → Int32)) → Prop) : Prop := wpX11_pull_b0 f g x1 K
def wpX11_pullRun_b20_body (B20 : (Nat → Int32) → (Nat → Nat → Int32) → Int32 → Int32 → Prop) (f : Nat → Int32) (g : Nat → Nat → Int32) (x1 : Int32) (x2 : Int32) (K : Int32 → ((Nat → Int32) × (Nat → Nat → Int32)) → Prop) : Prop :=
  (((f 41) = (f 40)) →
    K x2 (f, g)) ∧
  (¬ ((f 41) = (f 40)) →
    (¬ (x2 = x1) →
      wpX11_pullsTold f g  (fun u40 =>
        B20 u40.1 u40.2 x1 (x2 + (1 : Int32)))) ∧
    ((x2 = x1) →
      K (-2 : Int32) (f, g)))
def wpX11_pullRun_b20 (n_ : Nat) (f : Nat → Int32) (g : Nat → Nat → Int32) (x1 : Int32) (x2 : Int32) (K : Int32 → ((Nat → Int32) × (Nat → Nat → Int32)) → Prop) : Prop := match n_ with
  | 0 => False
  | n + 1 => wpX11_pullRun_b20_body (fun f g x1 x2 => wpX11_pullRun_b20 n f g x1 x2 K) f g x1 x2 K
def wpX11_pullRun_b0 (f : Nat → Int32) (g : Nat → Nat → Int32) (x1 : Int32) (K : Int32 → ((Nat → Int32) × (Nat → Nat → Int32)) → Prop) : Prop :=
  wpX11_isIn x1 (0 : Int32) (5000 : Int32) (fun r10 u10 =>
    (¬ (r10 = 0) →
    ∃ n, wpX11_pullRun_b20 n (upd f 2 (0 : Int32)) g x1 (0 : Int32) K) ∧
  ((r10 = 0) →
    K (-1 : Int32) (upd f 2 (0 : Int32), g)))
def wpX11_pullRun (f : Nat → Int32) (g : Nat → Nat → Int32) (x1 : Int32) (K : Int32 → ((Nat → Int32) × (Nat → Nat → Int32)) → Prop) : Prop := wpX11_pullRun_b0 f g x1 K
def wpX11_relays_b0 (f : Nat → Int32) (g : Nat → Nat → Int32) (K : Int32 → ((Nat → Int32) × (Nat → Nat → Int32)) → Prop) : Prop :=
  K (f 45) (upd f 2 (0 : Int32), g)
def wpX11_relays (f : Nat → Int32) (g : Nat → Nat → Int32) (K : Int32 → ((Nat → Int32) × (Nat → Nat → Int32)) → Prop) : Prop := wpX11_relays_b0 f g K
def wpX11_races_b33 (f : Nat → Int32) (g : Nat → Nat → Int32) (k0 : Int32) (K : Int32 → ((Nat → Int32) × (Nat → Nat → Int32)) → Prop) : Prop :=
  isB k0 ∧ K k0 (f, g)
def wpX11_races_b0 (f : Nat → Int32) (g : Nat → Nat → Int32) (x1 : Int32) (x2 : Int32) (K : Int32 → ((Nat → Int32) × (Nat → Nat → Int32)) → Prop) : Prop :=
  wpX11_works f g x1 ((f 67) ^^^ (jshl (1 : Int32) x2)) (f 69) (fun r14 u14 =>
    wpX11_isOf (u14.1 67) x1 (fun r22 u22 =>
    (¬ (r14 = r22) →
    wpX11_races_b33 u14.1 u14.2 (0 : Int32) K) ∧
  ((r14 = r22) →
    wpX11_races_b33 u14.1 u14.2 (1 : Int32) K)))
def wpX11_races (f : Nat → Int32) (g : Nat → Nat → Int32) (x1 : Int32) (x2 : Int32) (K : Int32 → ((Nat → Int32) × (Nat → Nat → Int32)) → Prop) : Prop := wpX11_races_b0 f g x1 x2 K
def wpX11_race_b97 (B26 : (Nat → Int32) → (Nat → Nat → Int32) → Int32 → Int32 → Prop) (B38 : (Nat → Int32) → (Nat → Nat → Int32) → Int32 → Int32 → Int32 → Prop) (f : Nat → Int32) (g : Nat → Nat → Int32) (x1 : Int32) (x2 : Int32) (x3 : Int32) (K : Int32 → ((Nat → Int32) × (Nat → Nat → Int32)) → Prop) : Prop :=
  B38 f g x1 x2 (x3 + (1 : Int32))
def wpX11_race_b38_body (B26 : (Nat → Int32) → (Nat → Nat → Int32) → Int32 → Int32 → Prop) (B38 : (Nat → Int32) → (Nat → Nat → Int32) → Int32 → Int32 → Int32 → Prop) (f : Nat → Int32) (g : Nat → Nat → Int32) (x1 : Int32) (x2 : Int32) (x3 : Int32) (K : Int32 → ((Nat → Int32) × (Nat → Nat → Int32)) → Prop) : Prop :=
  (((f 20) ≤ x3) →
    B26 f g x1 (x2 + (1 : Int32))) ∧
  (¬ ((f 20) ≤ x3) →
    wpX11_isOf x1 x2 (fun r48 u48 =>
      ((r48 = 0) →
      wpX11_race_b97 B26 B38 f g x1 x2 x3 K) ∧
    (¬ (r48 = 0) →
      wpX11_isOf x1 x3 (fun r56 u56 =>
        (¬ (r56 = 0) →
        wpX11_races f g x2 x3 (fun r68 u68 =>
          ((r68 = 0) →
          wpX11_races u68.1 u68.2 x3 x2 (fun r84 u84 =>
            ((r84 = 0) →
            wpX11_race_b97 B26 B38 u84.1 u84.2 x1 x2 x3 K) ∧
          (¬ (r84 = 0) →
            K (((32 : Int32) * x3) + x2) (u84.1, u84.2)))) ∧
        (¬ (r68 = 0) →
          K (((32 : Int32) * x2) + x3) (u68.1, u68.2)))) ∧
      ((r56 = 0) →
        wpX11_race_b97 B26 B38 f g x1 x2 x3 K)))))
def wpX11_race_b38 (B26 : (Nat → Int32) → (Nat → Nat → Int32) → Int32 → Int32 → Prop) (n_ : Nat) (f : Nat → Int32) (g : Nat → Nat → Int32) (x1 : Int32) (x2 : Int32) (x3 : Int32) (K : Int32 → ((Nat → Int32) × (Nat → Nat → Int32)) → Prop) : Prop := match n_ with
  | 0 => False
  | n + 1 => wpX11_race_b38_body B26 (fun f g x1 x2 x3 => wpX11_race_b38 B26 n f g x1 x2 x3 K) f g x1 x2 x3 K
def wpX11_race_b26_body (B26 : (Nat → Int32) → (Nat → Nat → Int32) → Int32 → Int32 → Prop) (f : Nat → Int32) (g : Nat → Nat → Int32) (x1 : Int32) (x2 : Int32) (K : Int32 → ((Nat → Int32) × (Nat → Nat → Int32)) → Prop) : Prop :=
  (((f 20) ≤ x2) →
    K (-1 : Int32) (f, g)) ∧
  (¬ ((f 20) ≤ x2) →
    ∃ n, wpX11_race_b38 B26 n f g x1 x2 (x2 + (1 : Int32)) K)
def wpX11_race_b26 (n_ : Nat) (f : Nat → Int32) (g : Nat → Nat → Int32) (x1 : Int32) (x2 : Int32) (K : Int32 → ((Nat → Int32) × (Nat → Nat → Int32)) → Prop) : Prop := match n_ with
  | 0 => False
  | n + 1 => wpX11_race_b26_body (fun f g x1 x2 => wpX11_race_b26 n f g x1 x2 K) f g x1 x2 K
def wpX11_race_b0 (f : Nat → Int32) (g : Nat → Nat → Int32) (K : Int32 → ((Nat → Int32) × (Nat → Nat → Int32)) → Prop) : Prop :=
  (¬ ((f 66) = 0) →
    ∃ n, wpX11_race_b26 n (upd f 2 (0 : Int32)) g ((f 67) ^^^ (f 68)) (0 : Int32) K) ∧
  (((f 66) = 0) →
    K (-1 : Int32) (upd f 2 (0 : Int32), g))
def wpX11_race (f : Nat → Int32) (g : Nat → Nat → Int32) (K : Int32 → ((Nat → Int32) × (Nat → Nat → Int32)) → Prop) : Prop := wpX11_race_b0 f g K
def wpX11_sticks_b95 (f : Nat → Int32) (g : Nat → Nat → Int32) (K : ((Nat → Int32) × (Nat → Nat → Int32)) → Prop) : Prop :=
  K (f, g)
def wpX11_sticks_b92 (f : Nat → Int32) (g : Nat → Nat → Int32) (k1 : Int32) (K : ((Nat → Int32) × (Nat → Nat → Int32)) → Prop) : Prop :=
  wpX11_sticks_b95 (upd f 45 k1) g K
def wpX11_sticks_b57 (f : Nat → Int32) (g : Nat → Nat → Int32) (k1 : Int32) (x1 : Int32) (x2 : Int32) (K : ((Nat → Int32) × (Nat → Nat → Int32)) → Prop) : Prop :=
  (((2 : Int32) ≤ x2) →
    wpX11_sticks_b95 (upd f 50 k1) g K) ∧
  (¬ ((2 : Int32) ≤ x2) →
    (¬ (x2 = (1 : Int32)) →
      wpX11_sticks_b92 (upd f 50 k1) g ((f 45) &&& ((jshl (1 : Int32) x1) ^^^ (-1 : Int32))) K) ∧
    ((x2 = (1 : Int32)) →
      wpX11_sticks_b92 (upd f 50 k1) g ((f 45) ||| (jshl (1 : Int32) x1)) K))
def wpX11_sticks_b27 (f : Nat → Int32) (g : Nat → Nat → Int32) (k1 : Int32) (x1 : Int32) (x2 : Int32) (K : ((Nat → Int32) × (Nat → Nat → Int32)) → Prop) : Prop :=
  (¬ (x2 = (1 : Int32)) →
    wpX11_sticks_b57 (upd f 49 k1) g ((f 50) &&& ((jshl (1 : Int32) x1) ^^^ (-1 : Int32))) x1 x2 K) ∧
  ((x2 = (1 : Int32)) →
    wpX11_sticks_b57 (upd f 49 k1) g ((f 50) ||| (jshl (1 : Int32) x1)) x1 x2 K)
def wpX11_sticks_b0 (f : Nat → Int32) (g : Nat → Nat → Int32) (x1 : Int32) (x2 : Int32) (K : ((Nat → Int32) × (Nat → Nat → Int32)) → Prop) : Prop :=
  (¬ (x2 = (2 : Int32)) →
    wpX11_sticks_b27 f g ((f 49) ||| (jshl (1 : Int32) x1)) x1 x2 K) ∧
  ((x2 = (2 : Int32)) →
    wpX11_sticks_b27 f g ((f 49) &&& ((jshl (1 : Int32) x1) ^^^ (-1 : Int32))) x1 x2 K)
def wpX11_sticks (f : Nat → Int32) (g : Nat → Nat → Int32) (x1 : Int32) (x2 : Int32) (K : ((Nat → Int32) × (Nat → Nat → Int32)) → Prop) : Prop := wpX11_sticks_b0 f g x1 x2 K
def wpX11_stick_b26 (f : Nat → Int32) (g : Nat → Nat → Int32) (K : Int32 → ((Nat → Int32) × (Nat → Nat → Int32)) → Prop) : Prop :=
  K (0 : Int32) (f, g)
def wpX11_stick_b0 (f : Nat → Int32) (g : Nat → Nat → Int32) (x1 : Int32) (x2 : Int32) (K : Int32 → ((Nat → Int32) × (Nat → Nat → Int32)) → Prop) : Prop :=
  ((x1 < 0) →
    wpX11_stick_b26 (upd f 2 (0 : Int32)) g K) ∧
  (¬ (x1 < 0) →
    (((f 20) ≤ x1) →
      wpX11_stick_b26 (upd f 2 (0 : Int32)) g K) ∧
    (¬ ((f 20) ≤ x1) →
      wpX11_isIn x2 (0 : Int32) (2 : Int32) (fun r20 u20 =>
        (¬ (r20 = 0) →
        wpX11_sticks (upd f 2 (0 : Int32)) g x1 x2 (fun u31 =>
          K (1 : Int32) (u31.1, u31.2))) ∧
      ((r20 = 0) →
        wpX11_stick_b26 (upd f 2 (0 : Int32)) g K))))
def wpX11_stick (f : Nat → Int32) (g : Nat → Nat → Int32) (x1 : Int32) (x2 : Int32) (K : Int32 → ((Nat → Int32) × (Nat → Nat → Int32)) → Prop) : Prop := wpX11_stick_b0 f g x1 x2 K
def wpX11_stuck_b0 (f : Nat → Int32) (g : Nat → Nat → Int32) (K : Int32 → ((Nat → Int32) × (Nat → Nat → Int32)) → Prop) : Prop :=
  K (f 49) (upd f 2 (0 : Int32), g)
def wpX11_stuck (f : Nat → Int32) (g : Nat → Nat → Int32) (K : Int32 → ((Nat → Int32) × (Nat → Nat → Int32)) → Prop) : Prop := wpX11_stuck_b0 f g K
def wpX11_same_b224 (f : Nat → Int32) (g : Nat → Nat → Int32) (x2 : Int32) (K : Int32 → ((Nat → Int32) × (Nat → Nat → Int32)) → Prop) : Prop :=
  wpX11_takes f g (4 : Int32) (fun u226 =>
    K x2 (u226.1, u226.2))
def wpX11_same_b217 (B51 : (Nat → Int32) → (Nat → Nat → Int32) → Int32 → Int32 → Int32 → Prop) (f : Nat → Int32) (g : Nat → Nat → Int32) (k0 : Int32) (x1 : Int32) (x3 : Int32) (K : Int32 → ((Nat → Int32) × (Nat → Nat → Int32)) → Prop) : Prop :=
  B51 f g x1 k0 (x3 + (1 : Int32))
def wpX11_same_b199 (B51 : (Nat → Int32) → (Nat → Nat → Int32) → Int32 → Int32 → Int32 → Prop) (B163 : (Nat → Int32) → (Nat → Nat → Int32) → Int32 → Int32 → Int32 → Int32 → Prop) (f : Nat → Int32) (g : Nat → Nat → Int32) (k0 : Int32) (x1 : Int32) (x3 : Int32) (x7 : Int32) (K : Int32 → ((Nat → Int32) × (Nat → Nat → Int32)) → Prop) : Prop :=
  B163 f g x1 x3 k0 (x7 + (1 : Int32))
def wpX11_same_b194 (B51 : (Nat → Int32) → (Nat → Nat → Int32) → Int32 → Int32 → Int32 → Prop) (B163 : (Nat → Int32) → (Nat → Nat → Int32) → Int32 → Int32 → Int32 → Int32 → Prop) (f : Nat → Int32) (g : Nat → Nat → Int32) (x1 : Int32) (x3 : Int32) (x7 : Int32) (K : Int32 → ((Nat → Int32) × (Nat → Nat → Int32)) → Prop) : Prop :=
  wpX11_same_b199 B51 B163 f g (1 : Int32) x1 x3 x7 K
def wpX11_same_b163_body (B51 : (Nat → Int32) → (Nat → Nat → Int32) → Int32 → Int32 → Int32 → Prop) (B163 : (Nat → Int32) → (Nat → Nat → Int32) → Int32 → Int32 → Int32 → Int32 → Prop) (f : Nat → Int32) (g : Nat → Nat → Int32) (x1 : Int32) (x3 : Int32) (x6 : Int32) (x7 : Int32) (K : Int32 → ((Nat → Int32) × (Nat → Nat → Int32)) → Prop) : Prop :=
  wpX11_squares f g  (fun r166 u166 =>
    ((r166 ≤ x7) →
    ((x6 = 0) →
      wpX11_same_b217 B51 u166.1 u166.2 (0 : Int32) x1 x3 K) ∧
    (¬ (x6 = 0) →
      wpX11_same_b217 B51 u166.1 u166.2 x3 x1 x3 K)) ∧
  (¬ (r166 ≤ x7) →
    (¬ (x6 = 0) →
      wpX11_same_b194 B51 B163 u166.1 u166.2 x1 x3 x7 K) ∧
    ((x6 = 0) →
      vp_in x7 36 ∧ vp_in x7 36 ∧ (((u166.2 47 (ix x7)) = (u166.2 70 (ix x7))) →
        wpX11_same_b199 B51 B163 u166.1 u166.2 (0 : Int32) x1 x3 x7 K) ∧
      (¬ ((u166.2 47 (ix x7)) = (u166.2 70 (ix x7))) →
        wpX11_same_b194 B51 B163 u166.1 u166.2 x1 x3 x7 K))))
def wpX11_same_b163 (B51 : (Nat → Int32) → (Nat → Nat → Int32) → Int32 → Int32 → Int32 → Prop) (n_ : Nat) (f : Nat → Int32) (g : Nat → Nat → Int32) (x1 : Int32) (x3 : Int32) (x6 : Int32) (x7 : Int32) (K : Int32 → ((Nat → Int32) × (Nat → Nat → Int32)) → Prop) : Prop := match n_ with
  | 0 => False
  | n + 1 => wpX11_same_b163_body B51 (fun f g x1 x3 x6 x7 => wpX11_same_b163 B51 n f g x1 x3 x6 x7 K) f g x1 x3 x6 x7 K
def wpX11_same_b158 (B51 : (Nat → Int32) → (Nat → Nat → Int32) → Int32 → Int32 → Int32 → Prop) (f : Nat → Int32) (g : Nat → Nat → Int32) (k0 : Int32) (x1 : Int32) (x3 : Int32) (K : Int32 → ((Nat → Int32) × (Nat → Nat → Int32)) → Prop) : Prop :=
  ∃ n, wpX11_same_b163 B51 n f g x1 x3 k0 (0 : Int32) K
def wpX11_same_b90_body (B51 : (Nat → Int32) → (Nat → Nat → Int32) → Int32 → Int32 → Int32 → Prop) (B90 : (Nat → Int32) → (Nat → Nat → Int32) → Int32 → Int32 → Int32 → Int32 → Prop) (f : Nat → Int32) (g : Nat → Nat → Int32) (x1 : Int32) (x3 : Int32) (x4 : Int32) (x5 : Int32) (K : Int32 → ((Nat → Int32) × (Nat → Nat → Int32)) → Prop) : Prop :=
  wpX11_squares f g  (fun r93 u93 =>
    ((r93 ≤ x5) →
    wpX11_takes u93.1 u93.2 (6 : Int32) (fun u122 =>
      wpX11_ticks u122.1 u122.2  (fun r126 u126 =>
      wpX11_puts u126.1 u126.2 (6 : Int32) (fun u134 =>
      (((((4 : Int32) * (u134.1 41)) + (u134.1 42)) = x4) →
      wpX11_same_b158 B51 u134.1 u134.2 (0 : Int32) x1 x3 K) ∧
    (¬ ((((4 : Int32) * (u134.1 41)) + (u134.1 42)) = x4) →
      wpX11_same_b158 B51 u134.1 u134.2 (1 : Int32) x1 x3 K))))) ∧
  (¬ (r93 ≤ x5) →
    vp_in x5 36 ∧ vp_in x5 36 ∧ B90 u93.1 (pt u93.2 70 (ix x5) (u93.2 47 (ix x5))) x1 x3 x4 (x5 + (1 : Int32))))
def wpX11_same_b90 (B51 : (Nat → Int32) → (Nat → Nat → Int32) → Int32 → Int32 → Int32 → Prop) (n_ : Nat) (f : Nat → Int32) (g : Nat → Nat → Int32) (x1 : Int32) (x3 : Int32) (x4 : Int32) (x5 : Int32) (K : Int32 → ((Nat → Int32) × (Nat → Nat → Int32)) → Prop) : Prop := match n_ with
  | 0 => False
  | n + 1 => wpX11_same_b90_body B51 (fun f g x1 x3 x4 x5 => wpX11_same_b90 B51 n f g x1 x3 x4 x5 K) f g x1 x3 x4 x5 K
def wpX11_same_b51_body (B51 : (Nat → Int32) → (Nat → Nat → Int32) → Int32 → Int32 → Int32 → Prop) (f : Nat → Int32) (g : Nat → Nat → Int32) (x1 : Int32) (x2 : Int32) (x3 : Int32) (K : Int32 → ((Nat → Int32) × (Nat → Nat → Int32)) → Prop) : Prop :=
  ((x1 < x3) →
    wpX11_same_b224 f g x2 K) ∧
  (¬ (x1 < x3) →
    (¬ (x2 = 0) →
      wpX11_same_b224 f g x2 K) ∧
    ((x2 = 0) →
      wpX11_takes f g (5 : Int32) (fun u62 =>
        wpX11_pulls u62.1 u62.2  (fun u66 =>
        wpX11_puts u66.1 u66.2 (5 : Int32) (fun u71 =>
        ∃ n, wpX11_same_b90 B51 n u71.1 u71.2 x1 x3 (((4 : Int32) * (u71.1 41)) + (u71.1 42)) (0 : Int32) K)))))
def wpX11_same_b51 (n_ : Nat) (f : Nat → Int32) (g : Nat → Nat → Int32) (x1 : Int32) (x2 : Int32) (x3 : Int32) (K : Int32 → ((Nat → Int32) × (Nat → Nat → Int32)) → Prop) : Prop := match n_ with
  | 0 => False
  | n + 1 => wpX11_same_b51_body (fun f g x1 x2 x3 => wpX11_same_b51 n f g x1 x2 x3 K) f g x1 x2 x3 K
def wpX11_same_b0 (f : Nat → Int32) (g : Nat → Nat → Int32) (x1 : Int32) (K : Int32 → ((Nat → Int32) × (Nat → Nat → Int32)) → Prop) : Prop :=
  wpX11_isIn x1 (1 : Int32) (500 : Int32) (fun r10 u10 =>
    (¬ (r10 = 0) →
    wpX11_puts (upd f 2 (0 : Int32)) g (4 : Int32) (fun u20 =>
      wpX11_puts (upd u20.1 45 ((u20.1 49) &&& (u20.1 50))) u20.2 (5 : Int32) (fun u38 =>
      wpX11_puts u38.1 u38.2 (6 : Int32) (fun u44 =>
      ∃ n, wpX11_same_b51 n u44.1 u44.2 x1 (0 : Int32) (1 : Int32) K)))) ∧
  ((r10 = 0) →
    K (-1 : Int32) (upd f 2 (0 : Int32), g)))
def wpX11_same (f : Nat → Int32) (g : Nat → Nat → Int32) (x1 : Int32) (K : Int32 → ((Nat → Int32) × (Nat → Nat → Int32)) → Prop) : Prop := wpX11_same_b0 f g x1 K
def wpX11_layLike_b20_body (B20 : (Nat → Int32) → (Nat → Nat → Int32) → Int32 → Int32 → Prop) (f : Nat → Int32) (g : Nat → Nat → Int32) (x1 : Int32) (x2 : Int32) (K : ((Nat → Int32) × (Nat → Nat → Int32)) → Prop) : Prop :=
  ((x1 ≤ x2) →
    K (f, g)) ∧
  (¬ (x1 ≤ x2) →
    wpX11_pulls f g  (fun u26 =>
      vp_in x2 500 ∧ B20 u26.1 (pt u26.2 71 (ix x2) (((4 : Int32) * (u26.1 41)) + (u26.1 42))) x1 (x2 + (1 : Int32))))
def wpX11_layLike_b20 (n_ : Nat) (f : Nat → Int32) (g : Nat → Nat → Int32) (x1 : Int32) (x2 : Int32) (K : ((Nat → Int32) × (Nat → Nat → Int32)) → Prop) : Prop := match n_ with
  | 0 => False
  | n + 1 => wpX11_layLike_b20_body (fun f g x1 x2 => wpX11_layLike_b20 n f g x1 x2 K) f g x1 x2 K
def wpX11_layLike_b0 (f : Nat → Int32) (g : Nat → Nat → Int32) (x1 : Int32) (K : ((Nat → Int32) × (Nat → Nat → Int32)) → Prop) : Prop :=
  wpX11_takes f g (4 : Int32) (fun u2 =>
    ∃ n, wpX11_layLike_b20 n (upd u2.1 45 ((u2.1 49) &&& (u2.1 50))) u2.2 x1 (0 : Int32) K)
def wpX11_layLike (f : Nat → Int32) (g : Nat → Nat → Int32) (x1 : Int32) (K : ((Nat → Int32) × (Nat → Nat → Int32)) → Prop) : Prop := wpX11_layLike_b0 f g x1 K
def wpX11_isLike_b67 (f : Nat → Int32) (g : Nat → Nat → Int32) (x2 : Int32) (K : Int32 → ((Nat → Int32) × (Nat → Nat → Int32)) → Prop) : Prop :=
  isB x2 ∧ K x2 (f, g)
def wpX11_isLike_b60 (B22 : (Nat → Int32) → (Nat → Nat → Int32) → Int32 → Int32 → Int32 → Prop) (f : Nat → Int32) (g : Nat → Nat → Int32) (k0 : Int32) (x1 : Int32) (x3 : Int32) (K : Int32 → ((Nat → Int32) × (Nat → Nat → Int32)) → Prop) : Prop :=
  B22 f g x1 k0 (x3 + (1 : Int32))
def wpX11_isLike_b22_body (B22 : (Nat → Int32) → (Nat → Nat → Int32) → Int32 → Int32 → Int32 → Prop) (f : Nat → Int32) (g : Nat → Nat → Int32) (x1 : Int32) (x2 : Int32) (x3 : Int32) (K : Int32 → ((Nat → Int32) × (Nat → Nat → Int32)) → Prop) : Prop :=
  ((x1 ≤ x3) →
    wpX11_isLike_b67 f g x2 K) ∧
  (¬ (x1 ≤ x3) →
    ((x2 = 0) →
      wpX11_isLike_b67 f g x2 K) ∧
    (¬ (x2 = 0) →
      wpX11_pulls f g  (fun u32 =>
        vp_in x3 500 ∧ (¬ ((u32.2 71 (ix x3)) = (((4 : Int32) * (u32.1 41)) + (u32.1 42))) →
        wpX11_isLike_b60 B22 u32.1 u32.2 (0 : Int32) x1 x3 K) ∧
      (((u32.2 71 (ix x3)) = (((4 : Int32) * (u32.1 41)) + (u32.1 42))) →
        wpX11_isLike_b60 B22 u32.1 u32.2 (1 : Int32) x1 x3 K))))
def wpX11_isLike_b22 (n_ : Nat) (f : Nat → Int32) (g : Nat → Nat → Int32) (x1 : Int32) (x2 : Int32) (x3 : Int32) (K : Int32 → ((Nat → Int32) × (Nat → Nat → Int32)) → Prop) : Prop := match n_ with
  | 0 => False
  | n + 1 => wpX11_isLike_b22_body (fun f g x1 x2 x3 => wpX11_isLike_b22 n f g x1 x2 x3 K) f g x1 x2 x3 K
def wpX11_isLike_b0 (f : Nat → Int32) (g : Nat → Nat → Int32) (x1 : Int32) (K : Int32 → ((Nat → Int32) × (Nat → Nat → Int32)) → Prop) : Prop :=
  wpX11_takes f g (4 : Int32) (fun u2 =>
    ∃ n, wpX11_isLike_b22 n (upd u2.1 45 ((u2.1 49) &&& (u2.1 50))) u2.2 x1 (1 : Int32) (0 : Int32) K)
def wpX11_isLike (f : Nat → Int32) (g : Nat → Nat → Int32) (x1 : Int32) (K : Int32 → ((Nat → Int32) × (Nat → Nat → Int32)) → Prop) : Prop := wpX11_isLike_b0 f g x1 K
def wpX11_laySuspects_b131 (B30 : (Nat → Int32) → (Nat → Nat → Int32) → Int32 → Int32 → Int32 → Int32 → Int32 → Int32 → Prop) (B42 : (Nat → Int32) → (Nat → Nat → Int32) → Int32 → Int32 → Int32 → Int32 → Int32 → Int32 → Int32 → Prop) (f : Nat → Int32) (g : Nat → Nat → Int32) (x1 : Int32) (x2 : Int32) (x3 : Int32) (x4 : Int32) (x5 : Int32) (x6 : Int32) (x7 : Int32) (K : ((Nat → Int32) × (Nat → Nat → Int32)) → Prop) : Prop :=
  B42 f g x1 x2 x3 x4 x5 x6 (x7 + (1 : Int32))
def wpX11_laySuspects_b58 (B30 : (Nat → Int32) → (Nat → Nat → Int32) → Int32 → Int32 → Int32 → Int32 → Int32 → Int32 → Prop) (B42 : (Nat → Int32) → (Nat → Nat → Int32) → Int32 → Int32 → Int32 → Int32 → Int32 → Int32 → Int32 → Prop) (f : Nat → Int32) (g : Nat → Nat → Int32) (k0 : Int32) (x1 : Int32) (x2 : Int32) (x3 : Int32) (x4 : Int32) (x5 : Int32) (x6 : Int32) (x7 : Int32) (K : ((Nat → Int32) × (Nat → Nat → Int32)) → Prop) : Prop :=
  wpX11_isOf k0 x6 (fun r60 u60 =>
    (¬ (r60 = 0) →
    wpX11_isLike (upd (upd f 49 (jshl (1 : Int32) x6)) 50 (jshl x7 x6)) g x1 (fun r88 u88 =>
      (¬ (r88 = 0) →
      (¬ (x7 = 0) →
        wpX11_laySuspects_b131 B30 B42 (upd u88.1 73 ((u88.1 73) ||| (jshl (1 : Int32) x6))) u88.2 x1 x2 x3 x4 x5 x6 x7 K) ∧
      ((x7 = 0) →
        wpX11_laySuspects_b131 B30 B42 (upd u88.1 72 ((u88.1 72) ||| (jshl (1 : Int32) x6))) u88.2 x1 x2 x3 x4 x5 x6 x7 K)) ∧
    ((r88 = 0) →
      wpX11_laySuspects_b131 B30 B42 u88.1 u88.2 x1 x2 x3 x4 x5 x6 x7 K))) ∧
  ((r60 = 0) →
    wpX11_laySuspects_b131 B30 B42 f g x1 x2 x3 x4 x5 x6 x7 K))
def wpX11_laySuspects_b42_body (B30 : (Nat → Int32) → (Nat → Nat → Int32) → Int32 → Int32 → Int32 → Int32 → Int32 → Int32 → Prop) (B42 : (Nat → Int32) → (Nat → Nat → Int32) → Int32 → Int32 → Int32 → Int32 → Int32 → Int32 → Int32 → Prop) (f : Nat → Int32) (g : Nat → Nat → Int32) (x1 : Int32) (x2 : Int32) (x3 : Int32) (x4 : Int32) (x5 : Int32) (x6 : Int32) (x7 : Int32) (K : ((Nat → Int32) × (Nat → Nat → Int32)) → Prop) : Prop :=
  (((2 : Int32) ≤ x7) →
    B30 f g x1 x2 x3 x4 x5 (x6 + (1 : Int32))) ∧
  (¬ ((2 : Int32) ≤ x7) →
    (¬ (x7 = 0) →
      wpX11_laySuspects_b58 B30 B42 f g x3 x1 x2 x3 x4 x5 x6 x7 K) ∧
    ((x7 = 0) →
      wpX11_laySuspects_b58 B30 B42 f g x2 x1 x2 x3 x4 x5 x6 x7 K))
def wpX11_laySuspects_b42 (B30 : (Nat → Int32) → (Nat → Nat → Int32) → Int32 → Int32 → Int32 → Int32 → Int32 → Int32 → Prop) (n_ : Nat) (f : Nat → Int32) (g : Nat → Nat → Int32) (x1 : Int32) (x2 : Int32) (x3 : Int32) (x4 : Int32) (x5 : Int32) (x6 : Int32) (x7 : Int32) (K : ((Nat → Int32) × (Nat → Nat → Int32)) → Prop) : Prop := match n_ with
  | 0 => False
  | n + 1 => wpX11_laySuspects_b42_body B30 (fun f g x1 x2 x3 x4 x5 x6 x7 => wpX11_laySuspects_b42 B30 n f g x1 x2 x3 x4 x5 x6 x7 K) f g x1 x2 x3 x4 x5 x6 x7 K
def wpX11_laySuspects_b30_body (B30 : (Nat → Int32) → (Nat → Nat → Int32) → Int32 → Int32 → Int32 → Int32 → Int32 → Int32 → Prop) (f : Nat → Int32) (g : Nat → Nat → Int32) (x1 : Int32) (x2 : Int32) (x3 : Int32) (x4 : Int32) (x5 : Int32) (x6 : Int32) (K : ((Nat → Int32) × (Nat → Nat → Int32)) → Prop) : Prop :=
  (((f 20) ≤ x6) →
    wpX11_takes (upd (upd f 49 x4) 50 x5) g (4 : Int32) (fun u157 =>
      K (u157.1, u157.2))) ∧
  (¬ ((f 20) ≤ x6) →
    ∃ n, wpX11_laySuspects_b42 B30 n f g x1 x2 x3 x4 x5 x6 (0 : Int32) K)
def wpX11_laySuspects_b30 (n_ : Nat) (f : Nat → Int32) (g : Nat → Nat → Int32) (x1 : Int32) (x2 : Int32) (x3 : Int32) (x4 : Int32) (x5 : Int32) (x6 : Int32) (K : ((Nat → Int32) × (Nat → Nat → Int32)) → Prop) : Prop := match n_ with
  | 0 => False
  | n + 1 => wpX11_laySuspects_b30_body (fun f g x1 x2 x3 x4 x5 x6 => wpX11_laySuspects_b30 n f g x1 x2 x3 x4 x5 x6 K) f g x1 x2 x3 x4 x5 x6 K
def wpX11_laySuspects_b0 (f : Nat → Int32) (g : Nat → Nat → Int32) (x1 : Int32) (x2 : Int32) (x3 : Int32) (K : ((Nat → Int32) × (Nat → Nat → Int32)) → Prop) : Prop :=
  wpX11_layLike f g x1 (fun u14 =>
    ∃ n, wpX11_laySuspects_b30 n (upd (upd u14.1 72 (0 : Int32)) 73 (0 : Int32)) u14.2 x1 x2 x3 (f 49) (f 50) (0 : Int32) K)
def wpX11_laySuspects (f : Nat → Int32) (g : Nat → Nat → Int32) (x1 : Int32) (x2 : Int32) (x3 : Int32) (K : ((Nat → Int32) × (Nat → Nat → Int32)) → Prop) : Prop := wpX11_laySuspects_b0 f g x1 x2 x3 K
def wpX11_isSound_b0 (f : Nat → Int32) (g : Nat → Nat → Int32) (x1 : Int32) (K : Int32 → ((Nat → Int32) × (Nat → Nat → Int32)) → Prop) : Prop :=
  wpX11_layLike f g x1 (fun u12 =>
    wpX11_isLike (upd (upd u12.1 49 (0 : Int32)) 50 (0 : Int32)) u12.2 x1 (fun r27 u27 =>
    wpX11_takes (upd (upd u27.1 49 (f 49)) 50 (f 50)) u27.2 (4 : Int32) (fun u44 =>
    isB r27 ∧ K r27 (u44.1, u44.2))))
def wpX11_isSound (f : Nat → Int32) (g : Nat → Nat → Int32) (x1 : Int32) (K : Int32 → ((Nat → Int32) × (Nat → Nat → Int32)) → Prop) : Prop := wpX11_isSound_b0 f g x1 K
def wpX11_suspect_b47 (f : Nat → Int32) (g : Nat → Nat → Int32) (K : ((Nat → Int32) × (Nat → Nat → Int32)) → Prop) : Prop :=
  K (f, g)
def wpX11_suspect_b0 (f : Nat → Int32) (g : Nat → Nat → Int32) (x1 : Int32) (K : ((Nat → Int32) × (Nat → Nat → Int32)) → Prop) : Prop :=
  wpX11_puts f g (4 : Int32) (fun u2 =>
    wpX11_isSound u2.1 u2.2 x1 (fun r7 u7 =>
    ((r7 = 0) →
    wpX11_laySuspects u7.1 u7.2 x1 ((jshl (1 : Int32) (u7.1 20)) - (1 : Int32)) ((jshl (1 : Int32) (u7.1 20)) - (1 : Int32)) (fun u44 =>
      wpX11_suspect_b47 u44.1 u44.2 K)) ∧
  (¬ (r7 = 0) →
    wpX11_suspect_b47 (upd (upd u7.1 72 (0 : Int32)) 73 (0 : Int32)) u7.2 K)))
def wpX11_suspect (f : Nat → Int32) (g : Nat → Nat → Int32) (x1 : Int32) (K : ((Nat → Int32) × (Nat → Nat → Int32)) → Prop) : Prop := wpX11_suspect_b0 f g x1 K
def wpX11_suspects_b25 (f : Nat → Int32) (g : Nat → Nat → Int32) (K : Int32 → ((Nat → Int32) × (Nat → Nat → Int32)) → Prop) : Prop :=
  K (-1 : Int32) (f, g)
def wpX11_suspects_b47 (f : Nat → Int32) (g : Nat → Nat → Int32) (k0 : Int32) (K : Int32 → ((Nat → Int32) × (Nat → Nat → Int32)) → Prop) : Prop :=
  K k0 (f, g)
def wpX11_suspects_b0 (f : Nat → Int32) (g : Nat → Nat → Int32) (x1 : Int32) (x2 : Int32) (K : Int32 → ((Nat → Int32) × (Nat → Nat → Int32)) → Prop) : Prop :=
  wpX11_isIn x1 (1 : Int32) (500 : Int32) (fun r10 u10 =>
    ((r10 = 0) →
    wpX11_suspects_b25 (upd f 2 (0 : Int32)) g K) ∧
  (¬ (r10 = 0) →
    wpX11_isIn x2 (0 : Int32) (1 : Int32) (fun r19 u19 =>
      (¬ (r19 = 0) →
      wpX11_suspect (upd f 2 (0 : Int32)) g x1 (fun u29 =>
        (¬ (x2 = 0) →
        wpX11_suspects_b47 u29.1 u29.2 (u29.1 73) K) ∧
      ((x2 = 0) →
        wpX11_suspects_b47 u29.1 u29.2 (u29.1 72) K))) ∧
    ((r19 = 0) →
      wpX11_suspects_b25 (upd f 2 (0 : Int32)) g K))))
def wpX11_suspects (f : Nat → Int32) (g : Nat → Nat → Int32) (x1 : Int32) (x2 : Int32) (K : Int32 → ((Nat → Int32) × (Nat → Nat → Int32)) → Prop) : Prop := wpX11_suspects_b0 f g x1 x2 K
def wpX11_manyOf_b4_body (B4 : Int32 → Int32 → Int32 → Prop) (x0 : Int32) (x1 : Int32) (x2 : Int32) (K : Int32 → Unit → Prop) : Prop :=
  (((20 : Int32) ≤ x2) →
    K x1 ()) ∧
  (¬ ((20 : Int32) ≤ x2) →
    B4 x0 (x1 + ((jshr x0 x2) &&& (1 : Int32))) (x2 + (1 : Int32)))
def wpX11_manyOf_b4 (n_ : Nat) (x0 : Int32) (x1 : Int32) (x2 : Int32) (K : Int32 → Unit → Prop) : Prop := match n_ with
  | 0 => False
  | n + 1 => wpX11_manyOf_b4_body (fun x0 x1 x2 => wpX11_manyOf_b4 n x0 x1 x2 K) x0 x1 x2 K
def wpX11_manyOf_b0 (x0 : Int32) (K : Int32 → Unit → Prop) : Prop :=
  ∃ n, wpX11_manyOf_b4 n x0 (0 : Int32) (0 : Int32) K
def wpX11_manyOf (x0 : Int32) (K : Int32 → Unit → Prop) : Prop := wpX11_manyOf_b0  x0 K
def wpX11_trial_b25 (f : Nat → Int32) (g : Nat → Nat → Int32) (K : Int32 → ((Nat → Int32) × (Nat → Nat → Int32)) → Prop) : Prop :=
  K (-1 : Int32) (f, g)
def wpX11_trial_b221 (f : Nat → Int32) (g : Nat → Nat → Int32) (k0 : Int32) (K : Int32 → ((Nat → Int32) × (Nat → Nat → Int32)) → Prop) : Prop :=
  K k0 (f, g)
def wpX11_trial_b204 (B68 : (Nat → Int32) → (Nat → Nat → Int32) → Int32 → Int32 → Int32 → Int32 → Int32 → Int32 → Int32 → Prop) (f : Nat → Int32) (g : Nat → Nat → Int32) (x1 : Int32) (x2 : Int32) (x3 : Int32) (x4 : Int32) (x5 : Int32) (x6 : Int32) (x7 : Int32) (K : Int32 → ((Nat → Int32) × (Nat → Nat → Int32)) → Prop) : Prop :=
  B68 f g x1 x2 x3 x4 x5 x6 (x7 + (1 : Int32))
def wpX11_trial_b196 (B68 : (Nat → Int32) → (Nat → Nat → Int32) → Int32 → Int32 → Int32 → Int32 → Int32 → Int32 → Int32 → Prop) (f : Nat → Int32) (g : Nat → Nat → Int32) (x1 : Int32) (x2 : Int32) (x3 : Int32) (x4 : Int32) (x7 : Int32) (x10 : Int32) (K : Int32 → ((Nat → Int32) × (Nat → Nat → Int32)) → Prop) : Prop :=
  wpX11_trial_b204 B68 f g x1 x2 x3 x4 x7 x10 x7 K
def wpX11_trial_b172 (B68 : (Nat → Int32) → (Nat → Nat → Int32) → Int32 → Int32 → Int32 → Int32 → Int32 → Int32 → Int32 → Prop) (f : Nat → Int32) (g : Nat → Nat → Int32) (k1 : Int32) (k2 : Int32) (k3 : Int32) (x1 : Int32) (x2 : Int32) (x3 : Int32) (x4 : Int32) (x5 : Int32) (x6 : Int32) (x7 : Int32) (x10 : Int32) (K : Int32 → ((Nat → Int32) × (Nat → Nat → Int32)) → Prop) : Prop :=
  wpX11_putWall f g k1 k2 k3 (fun u172 =>
    wpX11_puts u172.1 u172.2 (4 : Int32) (fun u177 =>
    ((x5 = (-1 : Int32)) →
    wpX11_trial_b196 B68 u177.1 u177.2 x1 x2 x3 x4 x7 x10 K) ∧
  (¬ (x5 = (-1 : Int32)) →
    ((x10 < x6) →
      wpX11_trial_b196 B68 u177.1 u177.2 x1 x2 x3 x4 x7 x10 K) ∧
    (¬ (x10 < x6) →
      wpX11_trial_b204 B68 u177.1 u177.2 x1 x2 x3 x4 x5 x6 x7 K))))
def wpX11_trial_b118 (B68 : (Nat → Int32) → (Nat → Nat → Int32) → Int32 → Int32 → Int32 → Int32 → Int32 → Int32 → Int32 → Prop) (f : Nat → Int32) (g : Nat → Nat → Int32) (k1 : Int32) (k2 : Int32) (k3 : Int32) (x1 : Int32) (x2 : Int32) (x3 : Int32) (x4 : Int32) (x5 : Int32) (x6 : Int32) (x7 : Int32) (x8 : Int32) (x9 : Int32) (K : Int32 → ((Nat → Int32) × (Nat → Nat → Int32)) → Prop) : Prop :=
  wpX11_putWall f g k1 k2 k3 (fun u118 =>
    wpX11_puts u118.1 u118.2 (4 : Int32) (fun u123 =>
    wpX11_laySuspects u123.1 u123.2 x1 x3 x4 (fun u131 =>
    wpX11_manyOf (u131.1 72) (fun r138 u138 =>
    wpX11_manyOf (u131.1 73) (fun r145 u145 =>
    wpX11_isWall u131.1 u131.2 x8 x9 (fun r161 u161 =>
    (¬ (r161 = 0) →
    wpX11_trial_b172 B68 u161.1 u161.2 x8 x9 (0 : Int32) x1 x2 x3 x4 x5 x6 x7 (r138 + r145) K) ∧
  ((r161 = 0) →
    wpX11_trial_b172 B68 u161.1 u161.2 x8 x9 (1 : Int32) x1 x2 x3 x4 x5 x6 x7 (r138 + r145) K)))))))
def wpX11_trial_b68_body (B68 : (Nat → Int32) → (Nat → Nat → Int32) → Int32 → Int32 → Int32 → Int32 → Int32 → Int32 → Int32 → Prop) (f : Nat → Int32) (g : Nat → Nat → Int32) (x1 : Int32) (x2 : Int32) (x3 : Int32) (x4 : Int32) (x5 : Int32) (x6 : Int32) (x7 : Int32) (K : Int32 → ((Nat → Int32) × (Nat → Nat → Int32)) → Prop) : Prop :=
  wpX11_wallMany f g  (fun r71 u71 =>
    ((r71 ≤ x7) →
    (¬ (x2 = 0) →
      wpX11_trial_b221 u71.1 u71.2 x6 K) ∧
    ((x2 = 0) →
      wpX11_trial_b221 u71.1 u71.2 x5 K)) ∧
  (¬ (r71 ≤ x7) →
    wpX11_wallAt u71.1 u71.2 x7 (fun r80 u80 =>
      wpX11_wallAt u80.1 u80.2 x7 (fun r90 u90 =>
      wpX11_isWall u90.1 u90.2 (r80 / (4 : Int32)) (jrem r90 (4 : Int32)) (fun r107 u107 =>
      (¬ (r107 = 0) →
      wpX11_trial_b118 B68 u107.1 u107.2 (r80 / (4 : Int32)) (jrem r90 (4 : Int32)) (0 : Int32) x1 x2 x3 x4 x5 x6 x7 (r80 / (4 : Int32)) (jrem r90 (4 : Int32)) K) ∧
    ((r107 = 0) →
      wpX11_trial_b118 B68 u107.1 u107.2 (r80 / (4 : Int32)) (jrem r90 (4 : Int32)) (1 : Int32) x1 x2 x3 x4 x5 x6 x7 (r80 / (4 : Int32)) (jrem r90 (4 : Int32)) K))))))
def wpX11_trial_b68 (n_ : Nat) (f : Nat → Int32) (g : Nat → Nat → Int32) (x1 : Int32) (x2 : Int32) (x3 : Int32) (x4 : Int32) (x5 : Int32) (x6 : Int32) (x7 : Int32) (K : Int32 → ((Nat → Int32) × (Nat → Nat → Int32)) → Prop) : Prop := match n_ with
  | 0 => False
  | n + 1 => wpX11_trial_b68_body (fun f g x1 x2 x3 x4 x5 x6 x7 => wpX11_trial_b68 n f g x1 x2 x3 x4 x5 x6 x7 K) f g x1 x2 x3 x4 x5 x6 x7 K
def wpX11_trial_b0 (f : Nat → Int32) (g : Nat → Nat → Int32) (x1 : Int32) (x2 : Int32) (K : Int32 → ((Nat → Int32) × (Nat → Nat → Int32)) → Prop) : Prop :=
  wpX11_isIn x1 (1 : Int32) (500 : Int32) (fun r10 u10 =>
    ((r10 = 0) →
    wpX11_trial_b25 (upd f 2 (0 : Int32)) g K) ∧
  (¬ (r10 = 0) →
    wpX11_isIn x2 (0 : Int32) (1 : Int32) (fun r19 u19 =>
      (¬ (r19 = 0) →
      wpX11_suspect (upd f 2 (0 : Int32)) g x1 (fun u29 =>
        wpX11_manyOf (u29.1 72) (fun r44 u44 =>
        wpX11_manyOf (u29.1 73) (fun r49 u49 =>
        (((2 : Int32) ≤ (r44 + r49)) →
        ∃ n, wpX11_trial_b68 n u29.1 u29.2 x1 x2 (u29.1 72) (u29.1 73) (-1 : Int32) (0 : Int32) (0 : Int32) K) ∧
      (¬ ((2 : Int32) ≤ (r44 + r49)) →
        K (-1 : Int32) (u29.1, u29.2)))))) ∧
    ((r19 = 0) →
      wpX11_trial_b25 (upd f 2 (0 : Int32)) g K))))
def wpX11_trial (f : Nat → Int32) (g : Nat → Nat → Int32) (x1 : Int32) (x2 : Int32) (K : Int32 → ((Nat → Int32) × (Nat → Nat → Int32)) → Prop) : Prop := wpX11_trial_b0 f g x1 x2 K
def wpX11_count_b109 (B74 : (Nat → Int32) → (Nat → Nat → Int32) → Int32 → Int32 → Prop) (f : Nat → Int32) (g : Nat → Nat → Int32) (k0 : Int32) (k1 : Int32) (x3 : Int32) (K : Int32 → ((Nat → Int32) × (Nat → Nat → Int32)) → Prop) : Prop :=
  B74 f g (k0 + k1) (x3 + (1 : Int32))
def wpX11_count_b74_body (B74 : (Nat → Int32) → (Nat → Nat → Int32) → Int32 → Int32 → Prop) (f : Nat → Int32) (g : Nat → Nat → Int32) (x2 : Int32) (x3 : Int32) (K : Int32 → ((Nat → Int32) × (Nat → Nat → Int32)) → Prop) : Prop :=
  wpX11_wallMany f g  (fun r76 u76 =>
    ((r76 ≤ x3) →
    K x2 (u76.1, u76.2)) ∧
  (¬ (r76 ≤ x3) →
    wpX11_wallAt u76.1 u76.2 x3 (fun r86 u86 =>
      wpX11_wallAt u86.1 u86.2 x3 (fun r93 u93 =>
      wpX11_isWall u93.1 u93.2 (r86 / (4 : Int32)) (jrem r93 (4 : Int32)) (fun r98 u98 =>
      ((r98 = 0) →
      wpX11_count_b109 B74 u98.1 u98.2 x2 (0 : Int32) x3 K) ∧
    (¬ (r98 = 0) →
      wpX11_count_b109 B74 u98.1 u98.2 x2 (1 : Int32) x3 K))))))
def wpX11_count_b74 (n_ : Nat) (f : Nat → Int32) (g : Nat → Nat → Int32) (x2 : Int32) (x3 : Int32) (K : Int32 → ((Nat → Int32) × (Nat → Nat → Int32)) → Prop) : Prop := match n_ with
  | 0 => False
  | n + 1 => wpX11_count_b74_body (fun f g x2 x3 => wpX11_count_b74 n f g x2 x3 K) f g x2 x3 K
def wpX11_count_b146 (B126 : (Nat → Int32) → (Nat → Nat → Int32) → Int32 → Int32 → Prop) (f : Nat → Int32) (g : Nat → Nat → Int32) (k0 : Int32) (k1 : Int32) (x3 : Int32) (K : Int32 → ((Nat → Int32) × (Nat → Nat → Int32)) → Prop) : Prop :=
  B126 f g (k0 + k1) (x3 + (1 : Int32))
def wpX11_count_b126_body (B126 : (Nat → Int32) → (Nat → Nat → Int32) → Int32 → Int32 → Prop) (f : Nat → Int32) (g : Nat → Nat → Int32) (x2 : Int32) (x3 : Int32) (K : Int32 → ((Nat → Int32) × (Nat → Nat → Int32)) → Prop) : Prop :=
  (((4 : Int32) ≤ x3) →
    K x2 (f, g)) ∧
  (¬ ((4 : Int32) ≤ x3) →
    vp_in x3 4 ∧ (((g 56 (ix x3)) = 0) →
      wpX11_count_b146 B126 f g x2 (0 : Int32) x3 K) ∧
    (¬ ((g 56 (ix x3)) = 0) →
      wpX11_count_b146 B126 f g x2 (1 : Int32) x3 K))
def wpX11_count_b126 (n_ : Nat) (f : Nat → Int32) (g : Nat → Nat → Int32) (x2 : Int32) (x3 : Int32) (K : Int32 → ((Nat → Int32) × (Nat → Nat → Int32)) → Prop) : Prop := match n_ with
  | 0 => False
  | n + 1 => wpX11_count_b126_body (fun f g x2 x3 => wpX11_count_b126 n f g x2 x3 K) f g x2 x3 K
def wpX11_count_b0 (f : Nat → Int32) (g : Nat → Nat → Int32) (x1 : Int32) (K : Int32 → ((Nat → Int32) × (Nat → Nat → Int32)) → Prop) : Prop :=
  (x1 = (0 : Int32) →
    wpX11_squares (upd f 2 (0 : Int32)) g  (fun r53 u53 =>
        K r53 (u53.1, u53.2))) ∧
  (x1 = (1 : Int32) →
    K (f 12) (upd f 2 (0 : Int32), g)) ∧
  (x1 = (2 : Int32) →
    K (f 20) (upd f 2 (0 : Int32), g)) ∧
  (x1 = (3 : Int32) →
    K (f 22) (upd f 2 (0 : Int32), g)) ∧
  (x1 = (4 : Int32) →
    ∃ n, wpX11_count_b74 n (upd f 2 (0 : Int32)) g (0 : Int32) (0 : Int32) K) ∧
  (x1 = (5 : Int32) →
    K (f 40) (upd f 2 (0 : Int32), g)) ∧
  (x1 = (6 : Int32) →
    ∃ n, wpX11_count_b126 n (upd f 2 (0 : Int32)) g (0 : Int32) (0 : Int32) K) ∧
  ((x1).toInt < 0 ∨ 6 < (x1).toInt →
    K (-1 : Int32) (upd f 2 (0 : Int32), g))
def wpX11_count (f : Nat → Int32) (g : Nat → Nat → Int32) (x1 : Int32) (K : Int32 → ((Nat → Int32) × (Nat → Nat → Int32)) → Prop) : Prop := wpX11_count_b0 f g x1 K
