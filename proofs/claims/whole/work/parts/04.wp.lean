def wp_X0_part (u : Ob) (x1 : Int32) (x2 : Int32) (post : Int32 → Prop) : Prop :=
  vp_in ((x1 * 5) + x2) 100 ∧
  post (u.2.1 3 ((x1 * 5) + x2).toNatClampNeg)
def wp_X7_isAmong (x1 : Int32) (x2 : Int32) (post : Int32 → Prop) : Prop :=
  ((x1 < 0) →
    post 0) ∧ ((¬ x1 < 0) →
    ((x2 ≤ x1) →
      post 0) ∧ ((¬ x2 ≤ x1) →
      post 1))
def wp_X0_canHave (u : Ob) (x1 : Int32) (x2 : Int32) (x3 : Int32) (x4 : Int32) (x5 : Int32) (post : Int32 → Prop) : Prop :=
  wp_X7_isAmong x1 (u.1 0) (fun (r_1 : Int32) =>
  ((r_1 = 0) →
    post 0) ∧ ((¬ r_1 = 0) →
    wp_X7_isAmong x2 3 (fun (r_3 : Int32) =>
    ((r_3 = 0) →
      post 0) ∧ ((¬ r_3 = 0) →
      wp_X7_isAmong x5 (u.1 0) (fun (r_5 : Int32) =>
      ((¬ r_5 = 0) →
        ((x2 = 0) →
          post 1) ∧ ((¬ x2 = 0) →
          wp_X7_isAmong x3 2 (fun (r_8 : Int32) =>
          ((r_8 = 0) →
            post 0) ∧ ((¬ r_8 = 0) →
            wp_X7_isAmong x4 3 (fun (r_10 : Int32) =>
            ((r_10 = 0) →
              post 0) ∧ ((¬ r_10 = 0) →
              post 1)))))) ∧ ((r_5 = 0) →
        post 0))))))
def wp_X0_canHaveAll (u : Ob) (n1 : Nat) (u1 : Nat → Int32) (x2 : Int32) (x3 : Int32) (post : Int32 → Prop) : Prop :=
  ∃ n : Nat, lq1 (fun (LL_1 : Int32 → Prop) (v4_2 : Int32) =>
    ((x3 ≤ v4_2) →
      post 1) ∧ ((¬ x3 ≤ v4_2) →
      vp_in ((x2 + (v4_2 * 5)) + 0) n1 ∧
      vp_in ((x2 + (v4_2 * 5)) + 1) n1 ∧
      vp_in ((x2 + (v4_2 * 5)) + 2) n1 ∧
      vp_in ((x2 + (v4_2 * 5)) + 3) n1 ∧
      vp_in ((x2 + (v4_2 * 5)) + 4) n1 ∧
      wp_X0_canHave u (u1 ((x2 + (v4_2 * 5)) + 0).toNatClampNeg) (u1 ((x2 + (v4_2 * 5)) + 1).toNatClampNeg) (u1 ((x2 + (v4_2 * 5)) + 2).toNatClampNeg) (u1 ((x2 + (v4_2 * 5)) + 3).toNatClampNeg) (u1 ((x2 + (v4_2 * 5)) + 4).toNatClampNeg) (fun (r_9 : Int32) =>
      ((¬ r_9 = 0) →
        LL_1 (v4_2 + 1)) ∧ ((r_9 = 0) →
        post 0)))) n 0
def wp_X0_add (u : Ob) (x1 : Int32) (x2 : Int32) (x3 : Int32) (x4 : Int32) (x5 : Int32) (post : Ob → Prop) : Prop :=
  vp_in (((u.1 1) * 5) + 0) 100 ∧ ∀ u_2 : Ob, u_2 = fs_a u 3 (upd (u.2.1 3) (((u.1 1) * 5) + 0).toNatClampNeg x1) →
  vp_in (((u.1 1) * 5) + 1) 100 ∧ ∀ u_4 : Ob, u_4 = fs_a u_2 3 (upd (u_2.2.1 3) (((u.1 1) * 5) + 1).toNatClampNeg x2) →
  jn (fun (w_6 : Int32) =>
    vp_in (((u.1 1) * 5) + 2) 100 ∧ ∀ u_8 : Ob, u_8 = fs_a u_4 3 (upd (u_4.2.1 3) (((u.1 1) * 5) + 2).toNatClampNeg w_6) →
    jn (fun (w_10 : Int32) =>
      vp_in (((u.1 1) * 5) + 3) 100 ∧ ∀ u_12 : Ob, u_12 = fs_a u_8 3 (upd (u_8.2.1 3) (((u.1 1) * 5) + 3).toNatClampNeg w_10) →
      vp_in (((u.1 1) * 5) + 4) 100 ∧ ∀ u_14 : Ob, u_14 = fs_a u_12 3 (upd (u_12.2.1 3) (((u.1 1) * 5) + 4).toNatClampNeg x5) →
      ∀ u_15 : Ob, u_15 = fs_i u_14 1 ((u_14.1 1) + 1) →
      post u_15) (fun (JJ_9 : Int32 → Prop) =>
      ((¬ x2 = 0) →
        JJ_9 x4) ∧ ((x2 = 0) →
        JJ_9 0))) (fun (JJ_5 : Int32 → Prop) =>
    ((¬ x2 = 0) →
      JJ_5 x3) ∧ ((x2 = 0) →
      JJ_5 0))
def wp_X0_addAll (u : Ob) (n1 : Nat) (u1 : Nat → Int32) (x2 : Int32) (x3 : Int32) (post : Ob → Prop) : Prop :=
  ∃ n : Nat, lq2 (fun (LL_1 : Int32 → Ob → Prop) (v4_2 : Int32) (u_3 : Ob) =>
    ((x3 ≤ v4_2) →
      post u_3) ∧ ((¬ x3 ≤ v4_2) →
      vp_in ((x2 + (v4_2 * 5)) + 0) n1 ∧
      vp_in ((x2 + (v4_2 * 5)) + 1) n1 ∧
      vp_in ((x2 + (v4_2 * 5)) + 2) n1 ∧
      vp_in ((x2 + (v4_2 * 5)) + 3) n1 ∧
      vp_in ((x2 + (v4_2 * 5)) + 4) n1 ∧
      wp_X0_add u_3 (u1 ((x2 + (v4_2 * 5)) + 0).toNatClampNeg) (u1 ((x2 + (v4_2 * 5)) + 1).toNatClampNeg) (u1 ((x2 + (v4_2 * 5)) + 2).toNatClampNeg) (u1 ((x2 + (v4_2 * 5)) + 3).toNatClampNeg) (u1 ((x2 + (v4_2 * 5)) + 4).toNatClampNeg) (fun (u_10 : Ob) =>
      LL_1 (v4_2 + 1) u_10))) n 0 u
def wp_X0_replace (u : Ob) (n1 : Nat) (u1 : Nat → Int32) (x2 : Int32) (post : Ob → Prop) : Prop :=
  ∀ u_1 : Ob, u_1 = fs_i u 1 0 →
  wp_X0_addAll u_1 n1 u1 0 x2 (fun (u_2 : Ob) =>
  post u_2)
def wp_X6_placeInOrder (x1 : Int32) (x2 : Int32) (post : Int32 → Prop) : Prop :=
  ∃ n : Nat, lq2 (fun (LL_1 : Int32 → Int32 → Prop) (v3_2 : Int32) (v2_3 : Int32) =>
    (((15 : Int32) ≤ v3_2) →
      post v3_2) ∧ ((¬ (15 : Int32) ≤ v3_2) →
      ((v2_3 = 0) →
        post v3_2) ∧ ((¬ v2_3 = 0) →
        (((x2 + 1) < (v2_3 &&& 3)) →
          post v3_2) ∧ ((¬ (x2 + 1) < (v2_3 &&& 3)) →
          LL_1 (v3_2 + 1) (j_ushr v2_3 2))))) n 0 x1
def wp_X6_size (x1 : Int32) (post : Int32 → Prop) : Prop :=
  ∃ n : Nat, lq1 (fun (LL_1 : Int32 → Prop) (v1_2 : Int32) =>
    (((15 : Int32) ≤ v1_2) →
      post v1_2) ∧ ((¬ (15 : Int32) ≤ v1_2) →
      (((j_ushr x1 (2 * v1_2)) = 0) →
        post v1_2) ∧ ((¬ (j_ushr x1 (2 * v1_2)) = 0) →
        LL_1 (v1_2 + 1)))) n 0
def wp_X6_with (x1 : Int32) (x2 : Int32) (x3 : Int32) (post : Int32 → Prop) : Prop :=
  post ((x1 &&& (((1 : Int32) <<< ((2 * x2) &&& 31)) - 1)) ||| ((((j_ushr x1 (2 * x2)) <<< ((2 : Int32) &&& 31)) ||| (x3 + 1)) <<< ((2 * x2) &&& 31)))
def wp_X0_wordWith (u : Ob) (x1 : Int32) (x2 : Int32) (x3 : Int32) (post : Int32 → Prop) : Prop :=
  vp_in x1 2 ∧
  jn (fun (w_3 : Int32) =>
    wp_X6_with x2 w_3 x3 (fun (r_4 : Int32) =>
    post r_4)) (fun (JJ_2 : Int32 → Prop) =>
    (((u.2.1 2 x1.toNatClampNeg) = 0) →
      wp_X6_size x2 (fun (r_6 : Int32) =>
      JJ_2 r_6)) ∧ ((¬ (u.2.1 2 x1.toNatClampNeg) = 0) →
      wp_X6_placeInOrder x2 x3 (fun (r_7 : Int32) =>
      JJ_2 r_7)))
def wp_X6_find (x1 : Int32) (x2 : Int32) (post : Int32 → Prop) : Prop :=
  ∃ n : Nat, lq1 (fun (LL_1 : Int32 → Prop) (v2_2 : Int32) =>
    (((15 : Int32) ≤ v2_2) →
      post (-1)) ∧ ((¬ (15 : Int32) ≤ v2_2) →
      ((¬ ((j_ushr x1 (2 * v2_2)) &&& 3) = (x2 + 1)) →
        LL_1 (v2_2 + 1)) ∧ ((((j_ushr x1 (2 * v2_2)) &&& 3) = (x2 + 1)) →
        post v2_2))) n 0
def wp_X6_without (x1 : Int32) (x2 : Int32) (post : Int32 → Prop) : Prop :=
  post ((x1 &&& (((1 : Int32) <<< ((2 * x2) &&& 31)) - 1)) ||| ((j_ushr x1 ((2 * x2) + 2)) <<< ((2 * x2) &&& 31)))
def wp_X0_wordBehind (u : Ob) (x1 : Int32) (x2 : Int32) (post : Int32 → Prop) : Prop :=
  wp_X0_part u x1 2 (fun (r_1 : Int32) =>
  wp_X0_part u x1 3 (fun (r_2 : Int32) =>
  wp_X0_part u x1 1 (fun (r_3 : Int32) =>
  (r_3 = 1 →
    wp_X0_wordWith u r_1 x2 r_2 (fun (r_5 : Int32) =>
    post r_5)) ∧ (¬ r_3 = 1 →
    (r_3 = 2 →
      wp_X6_find x2 r_2 (fun (r_7 : Int32) =>
      vp_in r_1 2 ∧
      jn (fun (w_10 : Int32) =>
        ((w_10 = 0) →
          post (-1)) ∧ ((¬ w_10 = 0) →
          wp_X6_without x2 r_7 (fun (r_12 : Int32) =>
          post r_12))) (fun (JJ_9 : Int32 → Prop) =>
        (((u.2.1 2 r_1.toNatClampNeg) = 0) →
          ((¬ r_7 = 0) →
            JJ_9 0) ∧ ((r_7 = 0) →
            JJ_9 1)) ∧ ((¬ (u.2.1 2 r_1.toNatClampNeg) = 0) →
          ((r_7 < 0) →
            JJ_9 0) ∧ ((¬ r_7 < 0) →
            JJ_9 1))))) ∧ (¬ r_3 = 2 →
      post x2)))))
def wp_X6_at (x1 : Int32) (x2 : Int32) (post : Int32 → Prop) : Prop :=
  post (((j_ushr x1 (2 * x2)) &&& 3) - 1)
def wp_X0_wordAhead (u : Ob) (x1 : Int32) (x2 : Int32) (post : Int32 → Prop) : Prop :=
  wp_X0_part u x1 2 (fun (r_1 : Int32) =>
  wp_X0_part u x1 3 (fun (r_2 : Int32) =>
  wp_X0_part u x1 1 (fun (r_3 : Int32) =>
  (r_3 = 1 →
    vp_in r_1 2 ∧
    jn (fun (w_7 : Int32) =>
      ((w_7 < 0) →
        post x2) ∧ ((¬ w_7 < 0) →
        wp_X6_at x2 w_7 (fun (r_9 : Int32) =>
        ((¬ r_9 = r_2) →
          post x2) ∧ ((r_9 = r_2) →
          wp_X6_without x2 w_7 (fun (r_11 : Int32) =>
          post r_11))))) (fun (JJ_6 : Int32 → Prop) =>
      (((u.2.1 2 r_1.toNatClampNeg) = 0) →
        wp_X6_size x2 (fun (r_13 : Int32) =>
        JJ_6 (r_13 - 1))) ∧ ((¬ (u.2.1 2 r_1.toNatClampNeg) = 0) →
        wp_X6_find x2 r_2 (fun (r_14 : Int32) =>
        JJ_6 r_14)))) ∧ (¬ r_3 = 1 →
    (r_3 = 2 →
      vp_in r_1 2 ∧
      (((u.2.1 2 r_1.toNatClampNeg) = 0) →
        wp_X6_with x2 0 r_2 (fun (r_18 : Int32) =>
        post r_18)) ∧ ((¬ (u.2.1 2 r_1.toNatClampNeg) = 0) →
        wp_X0_wordWith u r_1 x2 r_2 (fun (r_19 : Int32) =>
        post r_19))) ∧ (¬ r_3 = 2 →
      post x2)))))
def wp_X1_clear (u : Ob) (x1 : Int32) (post : Ob → Prop) : Prop :=
  ∀ u_1 : Ob, u_1 = fs_i u 0 x1 →
  vp_in 0 2 ∧ ∀ u_3 : Ob, u_3 = fs_a u_1 1 (upd (u_1.2.1 1) (0 : Int32).toNatClampNeg 0) →
  vp_in 1 2 ∧ ∀ u_5 : Ob, u_5 = fs_a u_3 1 (upd (u_3.2.1 1) (1 : Int32).toNatClampNeg 0) →
  post u_5
def wp_X6_isLonger (x1 : Int32) (x2 : Int32) (post : Int32 → Prop) : Prop :=
  (((j_ushr x1 (2 * x2)) = 0) →
    post 0) ∧ ((¬ (j_ushr x1 (2 * x2)) = 0) →
    post 1)
def wp_X1_isLonger (u : Ob) (x1 : Int32) (post : Int32 → Prop) : Prop :=
  vp_in 0 2 ∧
  wp_X6_isLonger (u.2.1 1 (0 : Int32).toNatClampNeg) x1 (fun (r_2 : Int32) =>
  ((¬ r_2 = 0) →
    post 1) ∧ ((r_2 = 0) →
    vp_in 1 2 ∧
    wp_X6_isLonger (u.2.1 1 (1 : Int32).toNatClampNeg) x1 (fun (r_5 : Int32) =>
    ((r_5 = 0) →
      post 0) ∧ ((¬ r_5 = 0) →
      post 1))))
def wp_X2_add (u : Ob) (x1 : Int32) (x2 : Int32) (x3 : Int32) (x4 : Int32) (x5 : Int32) (post : Ob → Prop) : Prop :=
  vp_in (u.1 0) 80 ∧ ∀ u_2 : Ob, u_2 = fs_a u 3 (upd (u.2.1 3) (u.1 0).toNatClampNeg x1) →
  vp_in (u_2.1 0) 80 ∧ ∀ u_4 : Ob, u_4 = fs_a u_2 4 (upd (u_2.2.1 4) (u_2.1 0).toNatClampNeg x2) →
  vp_in (u_4.1 0) 80 ∧ ∀ u_6 : Ob, u_6 = fs_a u_4 5 (upd (u_4.2.1 5) (u_4.1 0).toNatClampNeg x3) →
  vp_in (u_6.1 0) 80 ∧ ∀ u_8 : Ob, u_8 = fs_a u_6 6 (upd (u_6.2.1 6) (u_6.1 0).toNatClampNeg x4) →
  vp_in (u_8.1 0) 80 ∧ ∀ u_10 : Ob, u_10 = fs_a u_8 7 (upd (u_8.2.1 7) (u_8.1 0).toNatClampNeg x5) →
  jn (fun (w_12 : Int32) =>
    vp_in (u_10.1 0) 80 ∧ ∀ u_14 : Ob, u_14 = fs_a u_10 2 (upd (u_10.2.1 2) (u_10.1 0).toNatClampNeg w_12) →
    ∀ u_15 : Ob, u_15 = fs_i u_14 0 ((u_14.1 0) + 1) →
    post u_15) (fun (JJ_11 : Int32 → Prop) =>
    (((0 : Int32) ≤ x5) →
      vp_in x5 80 ∧
      JJ_11 ((u_10.2.1 2 x5.toNatClampNeg) + 1)) ∧ ((¬ (0 : Int32) ≤ x5) →
      JJ_11 0))
def wp_X6_isIn (x1 : Int32) (x2 : Int32) (post : Int32 → Prop) : Prop :=
  ∃ n : Nat, lq3 (fun (LL_1 : Int32 → Int32 → Int32 → Prop) (v4_2 : Int32) (v3_3 : Int32) (v2_4 : Int32) =>
    jn (  ((¬ v2_4 = 0) →
        post 0) ∧ ((v2_4 = 0) →
        post 1)) (fun (JJ_5 : Prop) =>
      (((15 : Int32) ≤ v4_2) →
        JJ_5) ∧ ((¬ (15 : Int32) ≤ v4_2) →
        ((v2_4 = 0) →
          JJ_5) ∧ ((¬ v2_4 = 0) →
          ((v3_3 = 0) →
            JJ_5) ∧ ((¬ v3_3 = 0) →
            jn (fun (v2_11 : Int32) =>
              LL_1 (v4_2 + 1) (j_ushr v3_3 2) v2_11) (fun (JJ_10 : Int32 → Prop) =>
              ((¬ (v2_4 &&& 3) = (v3_3 &&& 3)) →
                JJ_10 v2_4) ∧ (((v2_4 &&& 3) = (v3_3 &&& 3)) →
                JJ_10 (j_ushr v2_4 2)))))))) n 0 x2 x1
def wp_X2_isBelowPlace (u : Ob) (x1 : Int32) (x2 : Int32) (x3 : Int32) (x4 : Int32) (post : Int32 → Prop) : Prop :=
  vp_in x1 80 ∧
  ((¬ (u.2.1 3 x1.toNatClampNeg) = x2) →
    post 0) ∧ (((u.2.1 3 x1.toNatClampNeg) = x2) →
    vp_in x1 80 ∧
    wp_X6_isIn (u.2.1 4 x1.toNatClampNeg) x3 (fun (r_4 : Int32) =>
    ((r_4 = 0) →
      post 0) ∧ ((¬ r_4 = 0) →
      vp_in x1 80 ∧
      wp_X6_isIn (u.2.1 5 x1.toNatClampNeg) x4 (fun (r_7 : Int32) =>
      ((r_7 = 0) →
        post 0) ∧ ((¬ r_7 = 0) →
        post 1)))))
def wp_X2_firstBelow (u : Ob) (x1 : Int32) (x2 : Int32) (x3 : Int32) (post : Int32 → Prop) : Prop :=
  ∃ n : Nat, lq1 (fun (LL_1 : Int32 → Prop) (v4_2 : Int32) =>
    (((u.1 0) ≤ v4_2) →
      post (-1)) ∧ ((¬ (u.1 0) ≤ v4_2) →
      wp_X2_isBelowPlace u v4_2 x1 x2 x3 (fun (r_4 : Int32) =>
      ((r_4 = 0) →
        LL_1 (v4_2 + 1)) ∧ ((¬ r_4 = 0) →
        post v4_2)))) n 0
def wp_X2_lookAhead (u : Ob) (u1 : Ob) (x2 : Int32) (x3 : Int32) (post : Ob → Prop) : Prop :=
  wp_X0_part u1 x2 0 (fun (r_1 : Int32) =>
  wp_X0_part u1 x2 2 (fun (r_2 : Int32) =>
  jn (fun (w_4 : Int32) =>
    jn (fun (w_6 : Int32) =>
      wp_X2_firstBelow u r_1 w_4 w_6 (fun (r_7 : Int32) =>
      ((r_7 < 0) →
        jn (  ∀ u_10 : Ob, u_10 = fs_i u 1 1 →
          post u_10) (fun (JJ_9 : Prop) =>
          (((80 : Int32) ≤ (u.1 0)) →
            JJ_9) ∧ ((¬ (80 : Int32) ≤ (u.1 0)) →
            wp_X6_isLonger w_4 10 (fun (r_12 : Int32) =>
            ((¬ r_12 = 0) →
              JJ_9) ∧ ((r_12 = 0) →
              wp_X6_isLonger w_6 10 (fun (r_14 : Int32) =>
              ((r_14 = 0) →
                wp_X2_add u r_1 w_4 w_6 x2 x3 (fun (u_16 : Ob) =>
                post u_16)) ∧ ((¬ r_14 = 0) →
                JJ_9))))))) ∧ ((¬ r_7 < 0) →
        post u))) (fun (JJ_5 : Int32 → Prop) =>
      ((¬ r_2 = 1) →
        vp_in x3 80 ∧
        JJ_5 (u.2.1 5 x3.toNatClampNeg)) ∧ ((r_2 = 1) →
        vp_in x3 80 ∧
        wp_X0_wordAhead u1 x2 (u.2.1 5 x3.toNatClampNeg) (fun (r_20 : Int32) =>
        JJ_5 r_20)))) (fun (JJ_3 : Int32 → Prop) =>
    ((¬ r_2 = 0) →
      vp_in x3 80 ∧
      JJ_3 (u.2.1 4 x3.toNatClampNeg)) ∧ ((r_2 = 0) →
      vp_in x3 80 ∧
      wp_X0_wordAhead u1 x2 (u.2.1 4 x3.toNatClampNeg) (fun (r_24 : Int32) =>
      JJ_3 r_24)))))
def wp_X2_run (u : Ob) (u1 : Ob) (u2 : Ob) (post : Ob → Prop) : Prop :=
  ∀ u_1 : Ob, u_1 = fs_i u 0 0 →
  ∀ u_2 : Ob, u_2 = fs_i u_1 1 0 →
  vp_in 0 2 ∧
  vp_in 1 2 ∧
  wp_X2_add u_2 (u2.1 0) (u2.2.1 1 (0 : Int32).toNatClampNeg) (u2.2.1 1 (1 : Int32).toNatClampNeg) (-2) (-2) (fun (u_5 : Ob) =>
  ∃ n : Nat, lq2 (fun (LL_6 : Int32 → Ob → Prop) (v3_7 : Int32) (u_8 : Ob) =>
    (((80 : Int32) ≤ v3_7) →
      post u_8) ∧ ((¬ (80 : Int32) ≤ v3_7) →
      (((u_8.1 0) ≤ v3_7) →
        post u_8) ∧ ((¬ (u_8.1 0) ≤ v3_7) →
        ((¬ (u_8.1 1) = 0) →
          post u_8) ∧ (((u_8.1 1) = 0) →
          ∃ n : Nat, lq2 (fun (LL_12 : Int32 → Ob → Prop) (v4_13 : Int32) (u_14 : Ob) =>
            (((u1.1 1) ≤ v4_13) →
              LL_6 (v3_7 + 1) u_14) ∧ ((¬ (u1.1 1) ≤ v4_13) →
              ((¬ (u_14.1 1) = 0) →
                LL_6 (v3_7 + 1) u_14) ∧ (((u_14.1 1) = 0) →
                wp_X0_part u1 v4_13 4 (fun (r_17 : Int32) =>
                vp_in v3_7 80 ∧
                ((¬ r_17 = (u_14.2.1 3 v3_7.toNatClampNeg)) →
                  LL_12 (v4_13 + 1) u_14) ∧ ((r_17 = (u_14.2.1 3 v3_7.toNatClampNeg)) →
                  wp_X2_lookAhead u_14 u1 v4_13 v3_7 (fun (u_20 : Ob) =>
                  LL_12 (v4_13 + 1) u_20)))))) n 0 u_8)))) n 0 u_5)
def wp_X2_isLeast (u : Ob) (x1 : Int32) (post : Int32 → Prop) : Prop :=
  ∃ n : Nat, lq1 (fun (LL_1 : Int32 → Prop) (v2_2 : Int32) =>
    (((u.1 0) ≤ v2_2) →
      post 1) ∧ ((¬ (u.1 0) ≤ v2_2) →
      ((v2_2 = x1) →
        LL_1 (v2_2 + 1)) ∧ ((¬ v2_2 = x1) →
        vp_in x1 80 ∧
        vp_in x1 80 ∧
        vp_in x1 80 ∧
        wp_X2_isBelowPlace u v2_2 (u.2.1 3 x1.toNatClampNeg) (u.2.1 4 x1.toNatClampNeg) (u.2.1 5 x1.toNatClampNeg) (fun (r_8 : Int32) =>
        ((r_8 = 0) →
          LL_1 (v2_2 + 1)) ∧ ((¬ r_8 = 0) →
          post 0))))) n 0
def wp_X2_countLeast (u : Ob) (post : Int32 → Prop) : Prop :=
  ∃ n : Nat, lq2 (fun (LL_1 : Int32 → Int32 → Prop) (v2_2 : Int32) (v1_3 : Int32) =>
    (((u.1 0) ≤ v2_2) →
      post v1_3) ∧ ((¬ (u.1 0) ≤ v2_2) →
      wp_X2_isLeast u v2_2 (fun (r_5 : Int32) =>
      ((r_5 = 0) →
        LL_1 (v2_2 + 1) v1_3) ∧ ((¬ r_5 = 0) →
        LL_1 (v2_2 + 1) (v1_3 + 1))))) n 0 0
def wp_X2_wordOf (u : Ob) (x1 : Int32) (x2 : Int32) (post : Int32 → Prop) : Prop :=
  ((¬ x2 = 0) →
    vp_in x1 80 ∧
    post (u.2.1 5 x1.toNatClampNeg)) ∧ ((x2 = 0) →
    vp_in x1 80 ∧
    post (u.2.1 4 x1.toNatClampNeg))
def wp_X2_fact (u : Ob) (x1 : Int32) (x2 : Int32) (post : Int32 → Prop) : Prop :=
  (x2 = 0 →
    vp_in x1 80 ∧
    post (u.2.1 3 x1.toNatClampNeg)) ∧ (¬ x2 = 0 →
    (x2 = 1 →
      vp_in x1 80 ∧
      post (u.2.1 2 x1.toNatClampNeg)) ∧ (¬ x2 = 1 →
      (x2 = 2 →
        vp_in x1 80 ∧
        wp_X6_size (u.2.1 4 x1.toNatClampNeg) (fun (r_7 : Int32) =>
        post r_7)) ∧ (¬ x2 = 2 →
        (x2 = 3 →
          vp_in x1 80 ∧
          wp_X6_size (u.2.1 5 x1.toNatClampNeg) (fun (r_10 : Int32) =>
          post r_10)) ∧ (¬ x2 = 3 →
          (x2 = 4 →
            vp_in x1 80 ∧
            post (u.2.1 6 x1.toNatClampNeg)) ∧ (¬ x2 = 4 →
            (x2 = 5 →
              vp_in x1 80 ∧
              post (u.2.1 7 x1.toNatClampNeg)) ∧ (¬ x2 = 5 →
              wp_X2_isLeast u x1 (fun (r_15 : Int32) =>
              ((r_15 = 0) →
                post 0) ∧ ((¬ r_15 = 0) →
                post 1))))))))
def wp_X2_arcOfWay (u : Ob) (x1 : Int32) (x2 : Int32) (post : Int32 → Prop) : Prop :=
  ∃ n : Nat, lq2 (fun (LL_1 : Int32 → Int32 → Prop) (v4_2 : Int32) (v3_3 : Int32) =>
    jn (  vp_in v3_3 80 ∧
      post (u.2.1 6 v3_3.toNatClampNeg)) (fun (JJ_4 : Prop) =>
      ((x2 ≤ v4_2) →
        JJ_4) ∧ ((¬ x2 ≤ v4_2) →
        vp_in v3_3 80 ∧
        (((u.2.1 7 v3_3.toNatClampNeg) < 0) →
          JJ_4) ∧ ((¬ (u.2.1 7 v3_3.toNatClampNeg) < 0) →
          vp_in v3_3 80 ∧
          LL_1 (v4_2 + 1) (u.2.1 7 v3_3.toNatClampNeg))))) n 0 x1
def wp_J7_fill_53178 (n1 : Nat) (u1 : Nat → Int32) (x2 : Int32) (post : (Nat → Int32) → Prop) : Prop :=
  ∃ n : Nat, lq2 (fun (LL_1 : Int32 → (Nat → Int32) → Prop) (v2_2 : Int32) (u1_3 : Nat → Int32) =>
    (((Int32.ofNat n1) ≤ v2_2) →
      post u1_3) ∧ ((¬ (Int32.ofNat n1) ≤ v2_2) →
      vp_in v2_2 n1 ∧ ∀ u1_6 : Nat → Int32, u1_6 = (upd u1_3 v2_2.toNatClampNeg x2) →
      LL_1 (v2_2 + 1) u1_6)) n 0 u1
def wp_X3_hold (u : Ob) (x1 : Int32) (x2 : Int32) (post : Ob → Prop) : Prop :=
  ∀ u_1 : Ob, u_1 = fs_i u 0 1 →
  ∀ u_2 : Ob, u_2 = fs_i u_1 3 x1 →
  ∀ u_3 : Ob, u_3 = fs_i u_2 1 x2 →
  wp_J7_fill_53178 60 (u_3.2.1 2) 0 (fun (f_4 : Nat → Int32) =>
  ∀ u_5 : Ob, u_5 = fs_a u_3 2 f_4 →
  post u_5)
def wp_X3_faultAs (u : Ob) (x1 : Int32) (post : Int32 → Prop) : Prop :=
  ((¬ (u.1 0) = 0) →
    ((¬ x1 = (u.1 3)) →
      post (-12)) ∧ ((x1 = (u.1 3)) →
      post 0)) ∧ (((u.1 0) = 0) →
    post (-11))
def wp_X3_put (u : Ob) (x1 : Int32) (x2 : Int32) (post : Ob → Prop) : Prop :=
  jn (fun (w_2 : Int32) =>
    vp_in x1 60 ∧ ∀ u_4 : Ob, u_4 = fs_a u 2 (upd (u.2.1 2) x1.toNatClampNeg w_2) →
    post u_4) (fun (JJ_1 : Int32 → Prop) =>
    ((¬ (u.1 3) = 0) →
      JJ_1 x2) ∧ (((u.1 3) = 0) →
      JJ_1 (Int8.toInt32 (Int32.toInt8 x2))))
def wp_X4_byteOf (x1 : Int64) (x2 : Int32) (post : Int32 → Prop) : Prop :=
  post ((Int64.toInt32 (j_lushr x1 (8 * x2))) &&& 255)
def wp_X4_canHave (x1 : Int64) (x2 : Int32) (post : Int32 → Prop) : Prop :=
  ∃ n : Nat, lq1 (fun (LL_1 : Int32 → Prop) (v3_2 : Int32) =>
    ((x2 ≤ v3_2) →
      post 1) ∧ ((¬ x2 ≤ v3_2) →
      wp_X4_byteOf x1 v3_2 (fun (r_4 : Int32) =>
      ((r_4 < 32) →
        post 0) ∧ ((¬ r_4 < 32) →
        ((r_4 ≤ 126) →
          LL_1 (v3_2 + 1)) ∧ ((¬ r_4 ≤ 126) →
          post 0))))) n 0
def wp_X4_add (u : Ob) (x1 : Int64) (x2 : Int32) (post : Ob → Prop) : Prop :=
  ∃ n : Nat, lq2 (fun (LL_1 : Int32 → Ob → Prop) (v4_2 : Int32) (u_3 : Ob) =>
    ((v4_2 < 0) →
      post u_3) ∧ ((¬ v4_2 < 0) →
      wp_X4_byteOf x1 v4_2 (fun (r_5 : Int32) =>
      vp_in (u_3.1 0) 130 ∧ ∀ u_7 : Ob, u_7 = fs_a u_3 2 (upd (u_3.2.1 2) (u_3.1 0).toNatClampNeg (vp_nar .byte (Int8.toInt32 (Int32.toInt8 r_5)))) →
      ∀ u_8 : Ob, u_8 = fs_i u_7 0 ((u_7.1 0) + 1) →
      LL_1 (v4_2 + (-1)) u_8))) n (x2 - 1) u
def wp_X4_skipBlanks (u : Ob) (post : Ob → Prop) : Prop :=
  ∃ n : Nat, lq1 (fun (LL_1 : Ob → Prop) (u_2 : Ob) =>
    (((u_2.1 0) ≤ (u_2.1 3)) →
      post u_2) ∧ ((¬ (u_2.1 0) ≤ (u_2.1 3)) →
      vp_in (u_2.1 3) 130 ∧
      ((¬ (u_2.2.1 2 (u_2.1 3).toNatClampNeg) = 32) →
        post u_2) ∧ (((u_2.2.1 2 (u_2.1 3).toNatClampNeg) = 32) →
        ∀ u_6 : Ob, u_6 = fs_i u_2 3 ((u_2.1 3) + 1) →
        LL_1 u_6))) n u
def wp_X4_oneOf (u : Ob) (x1 : Int32) (x2 : Int32) (post : Int32 → Ob → Prop) : Prop :=
  wp_X4_skipBlanks u (fun (u_1 : Ob) =>
  (((u_1.1 0) ≤ (u_1.1 3)) →
    post (-1) u_1) ∧ ((¬ (u_1.1 0) ≤ (u_1.1 3)) →
    vp_in (u_1.1 3) 130 ∧
    wp_X7_isAmong ((u_1.2.1 2 (u_1.1 3).toNatClampNeg) - x1) x2 (fun (r_4 : Int32) =>
    ((¬ r_4 = 0) →
      ∀ u_6 : Ob, u_6 = fs_i u_1 3 ((u_1.1 3) + 1) →
      vp_in ((u_6.1 3) - 1) 130 ∧
      post ((u_6.2.1 2 ((u_6.1 3) - 1).toNatClampNeg) - x1) u_6) ∧ ((r_4 = 0) →
      post (-1) u_1))))
def wp_X4_parseAct (u : Ob) (post : Int32 → Ob → Prop) : Prop :=
  wp_X4_oneOf u 45 1 (fun (r_1 : Int32) (u_2 : Ob) =>
  ((¬ r_1 = 0) →
    wp_X4_oneOf u_2 33 1 (fun (r_4 : Int32) (u_5 : Ob) =>
    ((¬ r_4 = 0) →
      wp_X4_oneOf u_5 63 1 (fun (r_7 : Int32) (u_8 : Ob) =>
      ((¬ r_7 = 0) →
        post (-1) u_8) ∧ ((r_7 = 0) →
        post 2 u_8))) ∧ ((r_4 = 0) →
      post 1 u_5))) ∧ ((r_1 = 0) →
    post 0 u_2))
def wp_X4_parseLetterAndLine (u : Ob) (x1 : Int32) (post : Int32 → Ob → Prop) : Prop :=
  wp_X4_oneOf u 97 3 (fun (r_1 : Int32) (u_2 : Ob) =>
  vp_in (x1 + 3) 100 ∧ ∀ u_4 : Ob, u_4 = fs_a u_2 1 (upd (u_2.2.1 1) (x1 + 3).toNatClampNeg r_1) →
  vp_in (x1 + 3) 100 ∧
  (((0 : Int32) ≤ (u_4.2.1 1 (x1 + 3).toNatClampNeg)) →
    wp_X4_oneOf u_4 48 2 (fun (r_7 : Int32) (u_8 : Ob) =>
    vp_in (x1 + 2) 100 ∧ ∀ u_10 : Ob, u_10 = fs_a u_8 1 (upd (u_8.2.1 1) (x1 + 2).toNatClampNeg r_7) →
    vp_in (x1 + 2) 100 ∧
    (((u_10.2.1 1 (x1 + 2).toNatClampNeg) < 0) →
      post 0 u_10) ∧ ((¬ (u_10.2.1 1 (x1 + 2).toNatClampNeg) < 0) →
      post 1 u_10))) ∧ ((¬ (0 : Int32) ≤ (u_4.2.1 1 (x1 + 3).toNatClampNeg)) →
    post 0 u_4))
def wp_X4_parseArc (u : Ob) (x1 : Int32) (x2 : Int32) (post : Int32 → Ob → Prop) : Prop :=
  wp_X4_oneOf u 48 x2 (fun (r_1 : Int32) (u_2 : Ob) =>
  vp_in (x1 + 0) 100 ∧ ∀ u_4 : Ob, u_4 = fs_a u_2 1 (upd (u_2.2.1 1) (x1 + 0).toNatClampNeg r_1) →
  vp_in (x1 + 0) 100 ∧
  (((0 : Int32) ≤ (u_4.2.1 1 (x1 + 0).toNatClampNeg)) →
    wp_X4_parseAct u_4 (fun (r_7 : Int32) (u_8 : Ob) =>
    vp_in (x1 + 1) 100 ∧ ∀ u_10 : Ob, u_10 = fs_a u_8 1 (upd (u_8.2.1 1) (x1 + 1).toNatClampNeg r_7) →
    ((r_7 < 0) →
      post 0 u_10) ∧ ((¬ r_7 < 0) →
      jn (fun (u_13 : Ob) =>
        wp_X4_oneOf u_13 48 x2 (fun (r_14 : Int32) (u_15 : Ob) =>
        vp_in (x1 + 4) 100 ∧ ∀ u_17 : Ob, u_17 = fs_a u_15 1 (upd (u_15.2.1 1) (x1 + 4).toNatClampNeg r_14) →
        vp_in (x1 + 4) 100 ∧
        (((u_17.2.1 1 (x1 + 4).toNatClampNeg) < 0) →
          post 0 u_17) ∧ ((¬ (u_17.2.1 1 (x1 + 4).toNatClampNeg) < 0) →
          post 1 u_17))) (fun (JJ_12 : Ob → Prop) =>
        ((r_7 = 0) →
          JJ_12 u_10) ∧ ((¬ r_7 = 0) →
          wp_X4_parseLetterAndLine u_10 x1 (fun (r_21 : Int32) (u_22 : Ob) =>
          ((¬ r_21 = 0) →
            JJ_12 u_22) ∧ ((r_21 = 0) →
            post 0 u_22))))))) ∧ ((¬ (0 : Int32) ≤ (u_4.2.1 1 (x1 + 0).toNatClampNeg)) →
    post 0 u_4))
def wp_X4_parse (u : Ob) (x1 : Int32) (post : Int32 → Ob → Prop) : Prop :=
  ∀ u_1 : Ob, u_1 = fs_i u 3 0 →
  ∃ n : Nat, lq2 (fun (LL_2 : Int32 → Ob → Prop) (v2_3 : Int32) (u_4 : Ob) =>
    (((20 : Int32) ≤ v2_3) →
      post ((-20) - (u_4.1 3)) u_4) ∧ ((¬ (20 : Int32) ≤ v2_3) →
      wp_X4_parseArc u_4 (v2_3 * 5) x1 (fun (r_6 : Int32) (u_7 : Ob) =>
      ((¬ r_6 = 0) →
        wp_X4_skipBlanks u_7 (fun (u_9 : Ob) =>
        (((u_9.1 3) < (u_9.1 0)) →
          vp_in (u_9.1 3) 130 ∧
          jn (  post ((-20) - (u_9.1 3)) u_9) (fun (JJ_12 : Prop) =>
            ((¬ (u_9.2.1 2 (u_9.1 3).toNatClampNeg) = 59) →
              JJ_12) ∧ (((u_9.2.1 2 (u_9.1 3).toNatClampNeg) = 59) →
              ((¬ (v2_3 + 1) = 20) →
                ∀ u_15 : Ob, u_15 = fs_i u_9 3 ((u_9.1 3) + 1) →
                LL_2 (v2_3 + 1) u_15) ∧ (((v2_3 + 1) = 20) →
                JJ_12)))) ∧ ((¬ (u_9.1 3) < (u_9.1 0)) →
          post (v2_3 + 1) u_9))) ∧ ((r_6 = 0) →
        post ((-20) - (u_7.1 3)) u_7)))) n 0 u_1
def wp_J7_fill_d0a16 (n1 : Nat) (u1 : Nat → Int64) (x2 : Int64) (post : (Nat → Int64) → Prop) : Prop :=
  ∃ n : Nat, lq2 (fun (LL_1 : Int32 → (Nat → Int64) → Prop) (v3_2 : Int32) (u1_3 : Nat → Int64) =>
    (((Int32.ofNat n1) ≤ v3_2) →
      post u1_3) ∧ ((¬ (Int32.ofNat n1) ≤ v3_2) →
      vp_in v3_2 n1 ∧ ∀ u1_6 : Nat → Int64, u1_6 = (vp_updL u1_3 v3_2.toNatClampNeg x2) →
      LL_1 (v3_2 + 1) u1_6)) n 0 u1
def wp_X5_add (u : Ob) (x1 : Int32) (x2 : Int32) (x3 : Int32) (post : Ob → Prop) : Prop :=
  vp_in (((((x1 <<< ((6 : Int32) &&& 31)) ||| x2) <<< ((6 : Int32) &&& 31)) ||| x3) >>> ((6 : Int32) &&& 31)) 512 ∧
  ((¬ (lg_cmp ((u.2.2 0 (((((x1 <<< ((6 : Int32) &&& 31)) ||| x2) <<< ((6 : Int32) &&& 31)) ||| x3) >>> ((6 : Int32) &&& 31)).toNatClampNeg) &&& (j_lshl 1 (((((x1 <<< ((6 : Int32) &&& 31)) ||| x2) <<< ((6 : Int32) &&& 31)) ||| x3) &&& 63))) 0) = 0) →
    post u) ∧ (((lg_cmp ((u.2.2 0 (((((x1 <<< ((6 : Int32) &&& 31)) ||| x2) <<< ((6 : Int32) &&& 31)) ||| x3) >>> ((6 : Int32) &&& 31)).toNatClampNeg) &&& (j_lshl 1 (((((x1 <<< ((6 : Int32) &&& 31)) ||| x2) <<< ((6 : Int32) &&& 31)) ||| x3) &&& 63))) 0) = 0) →
    (((12800 : Int32) ≤ (u.1 2)) →
      post u) ∧ ((¬ (12800 : Int32) ≤ (u.1 2)) →
      vp_in (((((x1 <<< ((6 : Int32) &&& 31)) ||| x2) <<< ((6 : Int32) &&& 31)) ||| x3) >>> ((6 : Int32) &&& 31)) 512 ∧
      vp_in (((((x1 <<< ((6 : Int32) &&& 31)) ||| x2) <<< ((6 : Int32) &&& 31)) ||| x3) >>> ((6 : Int32) &&& 31)) 512 ∧ ∀ u_6 : Ob, u_6 = fs_l u 0 (vp_updL (u.2.2 0) (((((x1 <<< ((6 : Int32) &&& 31)) ||| x2) <<< ((6 : Int32) &&& 31)) ||| x3) >>> ((6 : Int32) &&& 31)).toNatClampNeg ((u.2.2 0 (((((x1 <<< ((6 : Int32) &&& 31)) ||| x2) <<< ((6 : Int32) &&& 31)) ||| x3) >>> ((6 : Int32) &&& 31)).toNatClampNeg) ||| (j_lshl 1 (((((x1 <<< ((6 : Int32) &&& 31)) ||| x2) <<< ((6 : Int32) &&& 31)) ||| x3) &&& 63)))) →
      vp_in (u_6.1 2) 12800 ∧ ∀ u_8 : Ob, u_8 = fs_a u_6 1 (upd (u_6.2.1 1) (u_6.1 2).toNatClampNeg ((((x1 <<< ((6 : Int32) &&& 31)) ||| x2) <<< ((6 : Int32) &&& 31)) ||| x3)) →
      ∀ u_9 : Ob, u_9 = fs_i u_8 2 ((u_8.1 2) + 1) →
      post u_9))
def wp_X5_stateOf (x1 : Int32) (post : Int32 → Prop) : Prop :=
  post (x1 >>> ((12 : Int32) &&& 31))
def wp_X5_wordOf (x1 : Int32) (x2 : Int32) (post : Int32 → Prop) : Prop :=
  ((¬ x2 = 0) →
    post (x1 &&& 63)) ∧ ((x2 = 0) →
    post ((x1 >>> ((6 : Int32) &&& 31)) &&& 63))
def wp_X5_isAimed (u1 : Ob) (x1 : Int32) (post : Int32 → Prop) : Prop :=
  wp_X5_stateOf x1 (fun (r_1 : Int32) =>
  ((¬ r_1 = (u1.1 0)) →
    post 0) ∧ ((r_1 = (u1.1 0)) →
    vp_in 0 2 ∧
    wp_X5_wordOf x1 0 (fun (r_4 : Int32) =>
    wp_X6_isIn (u1.2.1 1 (0 : Int32).toNatClampNeg) r_4 (fun (r_5 : Int32) =>
    ((r_5 = 0) →
      post 0) ∧ ((¬ r_5 = 0) →
      vp_in 1 2 ∧
      wp_X5_wordOf x1 1 (fun (r_8 : Int32) =>
      wp_X6_isIn (u1.2.1 1 (1 : Int32).toNatClampNeg) r_8 (fun (r_9 : Int32) =>
      ((r_9 = 0) →
        post 0) ∧ ((¬ r_9 = 0) →
        post 1))))))))
def wp_X5_goBy (u : Ob) (u1 : Ob) (x2 : Int32) (x3 : Int32) (x4 : Int32) (post : Ob → Prop) : Prop :=
  wp_X0_part u1 x2 2 (fun (r_1 : Int32) =>
  wp_X5_wordOf x3 r_1 (fun (r_2 : Int32) =>
  wp_X0_wordBehind u1 x2 r_2 (fun (r_3 : Int32) =>
  ((r_3 = (-1)) →
    post u) ∧ ((¬ r_3 = (-1)) →
    wp_X6_isLonger r_3 x4 (fun (r_5 : Int32) =>
    ((r_5 = 0) →
      wp_X0_part u1 x2 4 (fun (r_7 : Int32) =>
      jn (fun (w_9 : Int32) =>
        jn (fun (w_11 : Int32) =>
          wp_X5_add u r_7 w_9 w_11 (fun (u_12 : Ob) =>
          post u_12)) (fun (JJ_10 : Int32 → Prop) =>
          ((¬ r_1 = 1) →
            wp_X5_wordOf x3 1 (fun (r_14 : Int32) =>
            JJ_10 r_14)) ∧ ((r_1 = 1) →
            JJ_10 r_3))) (fun (JJ_8 : Int32 → Prop) =>
        ((¬ r_1 = 0) →
          wp_X5_wordOf x3 0 (fun (r_16 : Int32) =>
          JJ_8 r_16)) ∧ ((r_1 = 0) →
          JJ_8 r_3)))) ∧ ((¬ r_5 = 0) →
      post u))))))
def wp_X5_goOn (u : Ob) (u1 : Ob) (x2 : Int32) (x3 : Int32) (post : Ob → Prop) : Prop :=
  ∃ n : Nat, lq2 (fun (LL_1 : Int32 → Ob → Prop) (v4_2 : Int32) (u_3 : Ob) =>
    (((u1.1 1) ≤ v4_2) →
      post u_3) ∧ ((¬ (u1.1 1) ≤ v4_2) →
      wp_X0_part u1 v4_2 0 (fun (r_5 : Int32) =>
      wp_X5_stateOf x2 (fun (r_6 : Int32) =>
      ((¬ r_5 = r_6) →
        LL_1 (v4_2 + 1) u_3) ∧ ((r_5 = r_6) →
        wp_X5_goBy u_3 u1 v4_2 x2 x3 (fun (u_8 : Ob) =>
        LL_1 (v4_2 + 1) u_8)))))) n 0 u
def wp_X5_fewest (u : Ob) (u1 : Ob) (u2 : Ob) (u3 : Ob) (x4 : Int32) (post : Int32 → Ob → Prop) : Prop :=
  wp_J7_fill_d0a16 512 (u.2.2 0) 0 (fun (f_1 : Nat → Int64) =>
  ∀ u_2 : Ob, u_2 = fs_l u 0 f_1 →
  ∀ u_3 : Ob, u_3 = fs_i u_2 2 0 →
  vp_in 0 2 ∧
  vp_in 1 2 ∧
  wp_X5_add u_3 (u2.1 0) (u2.2.1 1 (0 : Int32).toNatClampNeg) (u2.2.1 1 (1 : Int32).toNatClampNeg) (fun (u_6 : Ob) =>
  ∃ n : Nat, lq3 (fun (LL_7 : Int32 → Int32 → Ob → Prop) (v6_8 : Int32) (v5_9 : Int32) (u_10 : Ob) =>
    (((12800 : Int32) ≤ v6_8) →
      post (-4) u_10) ∧ ((¬ (12800 : Int32) ≤ v6_8) →
      (((u_10.1 2) ≤ v5_9) →
        post (-4) u_10) ∧ ((¬ (u_10.1 2) ≤ v5_9) →
        ∃ n : Nat, lq2 (fun (LL_13 : Int32 → Ob → Prop) (v5_14 : Int32) (u_15 : Ob) =>
          (((u_10.1 2) ≤ v5_14) →
            LL_7 (v6_8 + 1) v5_14 u_15) ∧ ((¬ (u_10.1 2) ≤ v5_14) →
            vp_in v5_14 12800 ∧
            wp_X5_isAimed u3 (u_15.2.1 1 v5_14.toNatClampNeg) (fun (r_18 : Int32) =>
            ((r_18 = 0) →
              vp_in v5_14 12800 ∧
              wp_X5_goOn u_15 u1 (u_15.2.1 1 v5_14.toNatClampNeg) x4 (fun (u_21 : Ob) =>
              LL_13 (v5_14 + 1) u_21)) ∧ ((¬ r_18 = 0) →
              post v6_8 u_15)))) n v5_9 u_10))) n 0 0 u_6))
def wp_X7_startAgain (uf : Ob) (uh : Ob) (post : Ob → Ob → Prop) : Prop :=
  wp_X1_clear uh 0 (fun (uh_1 : Ob) =>
  ∀ uf_2 : Ob, uf_2 = fs_i uf 7 0 →
  post uf_2 uh_1)
def wp_X7_states (uf : Ob) (um : Ob) (uh : Ob) (ug : Ob) (x1 : Int32) (post : Int32 → Ob → Ob → Ob → Ob → Prop) : Prop :=
  ((x1 < 1) →
    post (-1) uf um uh ug) ∧ ((¬ x1 < 1) →
    ((x1 ≤ 8) →
      ∀ um_3 : Ob, um_3 = fs_i um 0 x1 →
      ∀ um_4 : Ob, um_4 = fs_i um_3 1 0 →
      wp_X1_clear ug 0 (fun (ug_5 : Ob) =>
      wp_X7_startAgain uf uh (fun (uf_6 : Ob) (uh_7 : Ob) =>
      post (um.1 0) uf_6 um_4 uh_7 ug_5))) ∧ ((¬ x1 ≤ 8) →
      post (-1) uf um uh ug))
def wp_X7_bag (uf : Ob) (um : Ob) (uh : Ob) (ug : Ob) (x1 : Int32) (x2 : Int32) (post : Int32 → Ob → Ob → Ob → Ob → Prop) : Prop :=
  wp_X7_isAmong x1 2 (fun (r_1 : Int32) =>
  ((¬ r_1 = 0) →
    vp_in x1 2 ∧
    jn (fun (w_5 : Int32) =>
      vp_in x1 2 ∧ ∀ um_7 : Ob, um_7 = fs_a um 2 (upd (um.2.1 2) x1.toNatClampNeg (vp_nar .boolean x2)) →
      wp_X1_clear ug 0 (fun (ug_8 : Ob) =>
      wp_X7_startAgain uf uh (fun (uf_9 : Ob) (uh_10 : Ob) =>
      post w_5 uf_9 um_7 uh_10 ug_8))) (fun (JJ_4 : Int32 → Prop) =>
      (((um.2.1 2 x1.toNatClampNeg) = 0) →
        JJ_4 0) ∧ ((¬ (um.2.1 2 x1.toNatClampNeg) = 0) →
        JJ_4 1))) ∧ ((r_1 = 0) →
    post (-1) uf um uh ug))
def wp_X7_arc (uf : Ob) (um : Ob) (uh : Ob) (x1 : Int32) (x2 : Int32) (x3 : Int32) (x4 : Int32) (x5 : Int32) (post : Int32 → Ob → Ob → Ob → Prop) : Prop :=
  wp_X0_canHave um x1 x2 x3 x4 x5 (fun (r_1 : Int32) =>
  ((¬ r_1 = 0) →
    (((um.1 1) < 20) →
      wp_X0_add um x1 x2 x3 x4 x5 (fun (um_4 : Ob) =>
      wp_X7_startAgain uf uh (fun (uf_5 : Ob) (uh_6 : Ob) =>
      post ((um_4.1 1) - 1) uf_5 um_4 uh_6))) ∧ ((¬ (um.1 1) < 20) →
      post (-3) uf um uh)) ∧ ((r_1 = 0) →
    post (-1) uf um uh))
def wp_X7_unarc (uf : Ob) (um : Ob) (uh : Ob) (post : Int32 → Ob → Ob → Ob → Prop) : Prop :=
  ((¬ (um.1 1) = 0) →
    ∀ um_2 : Ob, um_2 = fs_i um 1 ((um.1 1) - 1) →
    wp_X7_startAgain uf uh (fun (uf_3 : Ob) (uh_4 : Ob) =>
    post (um_2.1 1) uf_3 um_2 uh_4)) ∧ (((um.1 1) = 0) →
    post (-2) uf um uh)
def wp_X7_told (uf : Ob) (um : Ob) (x1 : Int32) (x2 : Int32) (post : Int32 → Prop) : Prop :=
  wp_X7_isAmong x1 (um.1 1) (fun (r_1 : Int32) =>
  ((r_1 = 0) →
    post (-1)) ∧ ((¬ r_1 = 0) →
    wp_X7_isAmong x2 5 (fun (r_3 : Int32) =>
    ((¬ r_3 = 0) →
      wp_X0_part um x1 x2 (fun (r_5 : Int32) =>
      post r_5)) ∧ ((r_3 = 0) →
      post (-1)))))
def wp_X7_type (uf : Ob) (ut : Ob) (x1 : Int64) (x2 : Int32) (post : Int32 → Ob → Prop) : Prop :=
  ((x2 < 1) →
    post (-1) ut) ∧ ((¬ x2 < 1) →
    (((8 : Int32) < x2) →
      post (-1) ut) ∧ ((¬ (8 : Int32) < x2) →
      wp_X4_canHave x1 x2 (fun (r_3 : Int32) =>
      ((¬ r_3 = 0) →
        ((((ut.1 0) + x2) ≤ 130) →
          wp_X4_add ut x1 x2 (fun (ut_6 : Ob) =>
          post (ut_6.1 0) ut_6)) ∧ ((¬ ((ut.1 0) + x2) ≤ 130) →
          post (-3) ut)) ∧ ((r_3 = 0) →
        post (-1) ut))))
def wp_X7_read (uf : Ob) (um : Ob) (ut : Ob) (uh : Ob) (post : Int32 → Ob → Ob → Ob → Ob → Prop) : Prop :=
  wp_X4_parse ut (um.1 0) (fun (r_1 : Int32) (ut_2 : Ob) =>
  ∀ ut_3 : Ob, ut_3 = fs_i ut_2 0 0 →
  ((r_1 ≤ 0) →
    post r_1 uf um ut_3 uh) ∧ ((¬ r_1 ≤ 0) →
    wp_X0_replace um 100 (ut_3.2.1 1) r_1 (fun (um_5 : Ob) =>
    wp_X7_startAgain uf uh (fun (uf_6 : Ob) (uh_7 : Ob) =>
    post r_1 uf_6 um_5 ut_3 uh_7))))
def wp_X7_arcs (uf : Ob) (um : Ob) (uh : Ob) (ux : Ob) (uy : Ob) (x1 : Int32) (x2 : Int32) (x3 : Int32) (x4 : Int32) (post : Int32 → Ob → Ob → Ob → Prop) : Prop :=
  wp_X7_isAmong x1 2 (fun (r_1 : Int32) =>
  ((r_1 = 0) →
    post (-1) uf um uh) ∧ ((¬ r_1 = 0) →
    wp_X7_isAmong x2 2 (fun (r_3 : Int32) =>
    ((r_3 = 0) →
      post (-1) uf um uh) ∧ ((¬ r_3 = 0) →
      ((x4 < 0) →
        post (-1) uf um uh) ∧ ((¬ x4 < 0) →
        ((x4 ≤ 12) →
          vp_in x1 2 ∧ (x1 = 0 →
            wp_X3_faultAs ux x2 (fun (r_8 : Int32) =>
            ((r_8 = 0) →
              ((x3 < 0) →
                post (-13) uf um uh) ∧ ((¬ x3 < 0) →
                ((x3 ≤ ((ux.1 1) - (x4 * 5))) →
                  wp_X0_canHaveAll um 60 (ux.2.1 2) x3 x4 (fun (r_12 : Int32) =>
                  ((¬ r_12 = 0) →
                    ((((um.1 1) + x4) ≤ 20) →
                      wp_X0_addAll um 60 (ux.2.1 2) x3 x4 (fun (um_15 : Ob) =>
                      wp_X7_startAgain uf uh (fun (uf_16 : Ob) (uh_17 : Ob) =>
                      post (um_15.1 1) uf_16 um_15 uh_17))) ∧ ((¬ ((um.1 1) + x4) ≤ 20) →
                      post (-3) uf um uh)) ∧ ((r_12 = 0) →
                    post (-2) uf um uh))) ∧ ((¬ x3 ≤ ((ux.1 1) - (x4 * 5))) →
                  post (-13) uf um uh))) ∧ ((¬ r_8 = 0) →
              post r_8 uf um uh))) ∧ (x1 = 1 →
            wp_X3_faultAs uy x2 (fun (r_18 : Int32) =>
            ((r_18 = 0) →
              ((x3 < 0) →
                post (-13) uf um uh) ∧ ((¬ x3 < 0) →
                ((x3 ≤ ((uy.1 1) - (x4 * 5))) →
                  wp_X0_canHaveAll um 60 (uy.2.1 2) x3 x4 (fun (r_22 : Int32) =>
                  ((¬ r_22 = 0) →
                    ((((um.1 1) + x4) ≤ 20) →
                      wp_X0_addAll um 60 (uy.2.1 2) x3 x4 (fun (um_25 : Ob) =>
                      wp_X7_startAgain uf uh (fun (uf_26 : Ob) (uh_27 : Ob) =>
                      post (um_25.1 1) uf_26 um_25 uh_27))) ∧ ((¬ ((um.1 1) + x4) ≤ 20) →
                      post (-3) uf um uh)) ∧ ((r_22 = 0) →
                    post (-2) uf um uh))) ∧ ((¬ x3 ≤ ((uy.1 1) - (x4 * 5))) →
                  post (-13) uf um uh))) ∧ ((¬ r_18 = 0) →
              post r_18 uf um uh)))) ∧ ((¬ x4 ≤ 12) →
          post (-1) uf um uh))))))
def wp_X7_go (uf : Ob) (um : Ob) (uh : Ob) (x1 : Int32) (post : Int32 → Ob → Prop) : Prop :=
  wp_X7_isAmong x1 (um.1 1) (fun (r_1 : Int32) =>
  ((¬ r_1 = 0) →
    wp_X0_part um x1 0 (fun (r_3 : Int32) =>
    ((r_3 = (uh.1 0)) →
      wp_X0_part um x1 2 (fun (r_5 : Int32) =>
      vp_in r_5 2 ∧
      wp_X0_wordBehind um x1 (uh.2.1 1 r_5.toNatClampNeg) (fun (r_7 : Int32) =>
      ((¬ r_7 = (-1)) →
        wp_X6_isLonger r_7 10 (fun (r_9 : Int32) =>
        ((r_9 = 0) →
          vp_in r_5 2 ∧ ∀ uh_12 : Ob, uh_12 = fs_a uh 1 (upd (uh.2.1 1) r_5.toNatClampNeg r_7) →
          wp_X0_part um x1 4 (fun (r_13 : Int32) =>
          ∀ uh_14 : Ob, uh_14 = fs_i uh_12 0 r_13 →
          post (uh_14.1 0) uh_14)) ∧ ((¬ r_9 = 0) →
          post (-3) uh))) ∧ ((r_7 = (-1)) →
        post (-2) uh)))) ∧ ((¬ r_3 = (uh.1 0)) →
      post (-2) uh))) ∧ ((r_1 = 0) →
    post (-1) uh))
def wp_X7_lose (uf : Ob) (uh : Ob) (x1 : Int32) (x2 : Int32) (post : Int32 → Ob → Prop) : Prop :=
  wp_X7_isAmong x1 2 (fun (r_1 : Int32) =>
  ((r_1 = 0) →
    post (-1) uh) ∧ ((¬ r_1 = 0) →
    vp_in x1 2 ∧
    wp_X6_size (uh.2.1 1 x1.toNatClampNeg) (fun (r_4 : Int32) =>
    wp_X7_isAmong x2 r_4 (fun (r_5 : Int32) =>
    ((¬ r_5 = 0) →
      vp_in x1 2 ∧
      wp_X6_at (uh.2.1 1 x1.toNatClampNeg) x2 (fun (r_8 : Int32) =>
      vp_in x1 2 ∧
      wp_X6_without (uh.2.1 1 x1.toNatClampNeg) x2 (fun (r_10 : Int32) =>
      vp_in x1 2 ∧ ∀ uh_12 : Ob, uh_12 = fs_a uh 1 (upd (uh.2.1 1) x1.toNatClampNeg r_10) →
      post r_8 uh_12))) ∧ ((r_5 = 0) →
      post (-1) uh)))))
def wp_X7_now (uf : Ob) (uh : Ob) (x1 : Int32) (x2 : Int32) (post : Int32 → Prop) : Prop :=
  ((¬ x2 = (-2)) →
    wp_X7_isAmong x1 2 (fun (r_2 : Int32) =>
    ((¬ r_2 = 0) →
      vp_in x1 2 ∧
      wp_X6_size (uh.2.1 1 x1.toNatClampNeg) (fun (r_5 : Int32) =>
      ((¬ x2 = (-1)) →
        wp_X7_isAmong x2 r_5 (fun (r_7 : Int32) =>
        ((r_7 = 0) →
          post (-1)) ∧ ((¬ r_7 = 0) →
          vp_in x1 2 ∧
          wp_X6_at (uh.2.1 1 x1.toNatClampNeg) x2 (fun (r_10 : Int32) =>
          post r_10)))) ∧ ((x2 = (-1)) →
        post r_5))) ∧ ((r_2 = 0) →
      post (-1)))) ∧ ((x2 = (-2)) →
    post (uh.1 0))
def wp_X7_reset (uf : Ob) (uh : Ob) (post : Int32 → Ob → Prop) : Prop :=
  wp_X1_clear uh 0 (fun (uh_1 : Ob) =>
  post 1 uh_1)
def wp_X7_aim (uf : Ob) (um : Ob) (ug : Ob) (x1 : Int32) (post : Int32 → Ob → Ob → Prop) : Prop :=
  wp_X7_isAmong x1 (um.1 0) (fun (r_1 : Int32) =>
  ((¬ r_1 = 0) →
    wp_X1_clear ug x1 (fun (ug_3 : Ob) =>
    ∀ uf_4 : Ob, uf_4 = fs_i uf 7 0 →
    post 1 uf_4 ug_3)) ∧ ((r_1 = 0) →
    post (-1) uf ug))
def wp_X7_want (uf : Ob) (um : Ob) (ug : Ob) (x1 : Int32) (x2 : Int32) (post : Int32 → Ob → Ob → Prop) : Prop :=
  wp_X7_isAmong x1 2 (fun (r_1 : Int32) =>
  ((r_1 = 0) →
    post (-1) uf ug) ∧ ((¬ r_1 = 0) →
    wp_X7_isAmong x2 3 (fun (r_3 : Int32) =>
    ((¬ r_3 = 0) →
      vp_in x1 2 ∧
      wp_X6_size (ug.2.1 1 x1.toNatClampNeg) (fun (r_6 : Int32) =>
      ((r_6 < 10) →
        vp_in x1 2 ∧
        wp_X0_wordWith um x1 (ug.2.1 1 x1.toNatClampNeg) x2 (fun (r_9 : Int32) =>
        vp_in x1 2 ∧ ∀ ug_11 : Ob, ug_11 = fs_a ug 1 (upd (ug.2.1 1) x1.toNatClampNeg r_9) →
        ∀ uf_12 : Ob, uf_12 = fs_i uf 7 0 →
        post (r_6 + 1) uf_12 ug_11)) ∧ ((¬ r_6 < 10) →
        post (-3) uf ug))) ∧ ((r_3 = 0) →
      post (-1) uf ug))))
def wp_X7_searchOnce (uf : Ob) (um : Ob) (ug : Ob) (ur : Ob) (post : Ob → Ob → Prop) : Prop :=
  ((¬ (uf.1 7) = 0) →
    post uf ur) ∧ (((uf.1 7) = 0) →
    wp_X2_run ur um ug (fun (ur_2 : Ob) =>
    ∀ uf_3 : Ob, uf_3 = fs_i uf 7 1 →
    post uf_3 ur_2))
def wp_X7_found (uf : Ob) (um : Ob) (ug : Ob) (ur : Ob) (post : Int32 → Ob → Ob → Prop) : Prop :=
  wp_X7_searchOnce uf um ug ur (fun (uf_1 : Ob) (ur_2 : Ob) =>
  (((ur_2.1 1) = 0) →
    post (ur_2.1 0) uf_1 ur_2) ∧ ((¬ (ur_2.1 1) = 0) →
    post (-3) uf_1 ur_2))
def wp_X7_about (uf : Ob) (um : Ob) (ug : Ob) (ur : Ob) (x1 : Int32) (x2 : Int32) (post : Int32 → Ob → Ob → Prop) : Prop :=
  ((x1 < 0) →
    post (-1) uf ur) ∧ ((¬ x1 < 0) →
    ((x2 < 0) →
      post (-1) uf ur) ∧ ((¬ x2 < 0) →
      ((x2 ≤ 6) →
        wp_X7_searchOnce uf um ug ur (fun (uf_4 : Ob) (ur_5 : Ob) =>
        (((ur_5.1 1) = 0) →
          (((ur_5.1 0) ≤ x1) →
            post (-1) uf_4 ur_5) ∧ ((¬ (ur_5.1 0) ≤ x1) →
            wp_X2_fact ur_5 x1 x2 (fun (r_8 : Int32) =>
            post r_8 uf_4 ur_5))) ∧ ((¬ (ur_5.1 1) = 0) →
          post (-3) uf_4 ur_5))) ∧ ((¬ x2 ≤ 6) →
        post (-1) uf ur)))
def wp_X7_letter (uf : Ob) (um : Ob) (ug : Ob) (ur : Ob) (x1 : Int32) (x2 : Int32) (x3 : Int32) (post : Int32 → Ob → Ob → Prop) : Prop :=
  ((x1 < 0) →
    post (-1) uf ur) ∧ ((¬ x1 < 0) →
    ((x3 < 0) →
      post (-1) uf ur) ∧ ((¬ x3 < 0) →
      wp_X7_isAmong x2 2 (fun (r_3 : Int32) =>
      ((¬ r_3 = 0) →
        wp_X7_searchOnce uf um ug ur (fun (uf_5 : Ob) (ur_6 : Ob) =>
        (((ur_6.1 1) = 0) →
          ((x1 < (ur_6.1 0)) →
            wp_X2_wordOf ur_6 x1 x2 (fun (r_9 : Int32) =>
            wp_X6_size r_9 (fun (r_10 : Int32) =>
            ((r_10 ≤ x3) →
              post (-1) uf_5 ur_6) ∧ ((¬ r_10 ≤ x3) →
              wp_X6_at r_9 x3 (fun (r_12 : Int32) =>
              post r_12 uf_5 ur_6))))) ∧ ((¬ x1 < (ur_6.1 0)) →
            post (-1) uf_5 ur_6)) ∧ ((¬ (ur_6.1 1) = 0) →
          post (-3) uf_5 ur_6))) ∧ ((r_3 = 0) →
        post (-1) uf ur))))
def wp_X7_least (uf : Ob) (um : Ob) (ug : Ob) (ur : Ob) (post : Int32 → Ob → Ob → Prop) : Prop :=
  wp_X7_searchOnce uf um ug ur (fun (uf_1 : Ob) (ur_2 : Ob) =>
  (((ur_2.1 1) = 0) →
    wp_X2_countLeast ur_2 (fun (r_4 : Int32) =>
    post r_4 uf_1 ur_2)) ∧ ((¬ (ur_2.1 1) = 0) →
    post (-3) uf_1 ur_2))
def wp_X7_far (uf : Ob) (um : Ob) (uh : Ob) (ug : Ob) (ur : Ob) (post : Int32 → Ob → Ob → Prop) : Prop :=
  wp_X7_searchOnce uf um ug ur (fun (uf_1 : Ob) (ur_2 : Ob) =>
  (((ur_2.1 1) = 0) →
    vp_in 0 2 ∧
    vp_in 1 2 ∧
    wp_X2_firstBelow ur_2 (uh.1 0) (uh.2.1 1 (0 : Int32).toNatClampNeg) (uh.2.1 1 (1 : Int32).toNatClampNeg) (fun (r_6 : Int32) =>
    (((0 : Int32) ≤ r_6) →
      vp_in r_6 80 ∧
      post (ur_2.2.1 2 r_6.toNatClampNeg) uf_1 ur_2) ∧ ((¬ (0 : Int32) ≤ r_6) →
      post (-4) uf_1 ur_2))) ∧ ((¬ (ur_2.1 1) = 0) →
    post (-3) uf_1 ur_2))
def wp_X7_way (uf : Ob) (um : Ob) (uh : Ob) (ug : Ob) (ur : Ob) (x1 : Int32) (post : Int32 → Ob → Ob → Prop) : Prop :=
  (((0 : Int32) ≤ x1) →
    wp_X7_searchOnce uf um ug ur (fun (uf_2 : Ob) (ur_3 : Ob) =>
    (((ur_3.1 1) = 0) →
      vp_in 0 2 ∧
      vp_in 1 2 ∧
      wp_X2_firstBelow ur_3 (uh.1 0) (uh.2.1 1 (0 : Int32).toNatClampNeg) (uh.2.1 1 (1 : Int32).toNatClampNeg) (fun (r_7 : Int32) =>
      (((0 : Int32) ≤ r_7) →
        vp_in r_7 80 ∧
        (((ur_3.2.1 2 r_7.toNatClampNeg) ≤ x1) →
          post (-1) uf_2 ur_3) ∧ ((¬ (ur_3.2.1 2 r_7.toNatClampNeg) ≤ x1) →
          wp_X2_arcOfWay ur_3 r_7 x1 (fun (r_11 : Int32) =>
          post r_11 uf_2 ur_3))) ∧ ((¬ (0 : Int32) ≤ r_7) →
        post (-4) uf_2 ur_3))) ∧ ((¬ (ur_3.1 1) = 0) →
      post (-3) uf_2 ur_3))) ∧ ((¬ (0 : Int32) ≤ x1) →
    post (-1) uf ur)
def wp_X7_strict (uf : Ob) (um : Ob) (uh : Ob) (ug : Ob) (uw : Ob) (x1 : Int32) (post : Int32 → Ob → Prop) : Prop :=
  ((x1 < 0) →
    post (-1) uw) ∧ ((¬ x1 < 0) →
    ((x1 ≤ 3) →
      wp_X1_isLonger uh x1 (fun (r_3 : Int32) =>
      ((¬ r_3 = 0) →
        post (-2) uw) ∧ ((r_3 = 0) →
        wp_X1_isLonger ug x1 (fun (r_5 : Int32) =>
        ((r_5 = 0) →
          wp_X5_fewest uw um uh ug x1 (fun (r_7 : Int32) (uw_8 : Ob) =>
          post r_7 uw_8)) ∧ ((¬ r_5 = 0) →
          post (-2) uw))))) ∧ ((¬ x1 ≤ 3) →
      post (-1) uw))
def wp_X7_sheet (uf : Ob) (ux : Ob) (uy : Ob) (x1 : Int32) (x2 : Int32) (x3 : Int32) (post : Int32 → Ob → Ob → Prop) : Prop :=
  wp_X7_isAmong x1 2 (fun (r_1 : Int32) =>
  ((r_1 = 0) →
    post (-1) ux uy) ∧ ((¬ r_1 = 0) →
    wp_X7_isAmong x2 2 (fun (r_3 : Int32) =>
    ((r_3 = 0) →
      post (-1) ux uy) ∧ ((¬ r_3 = 0) →
      ((x3 ≤ 60) →
        (((0 : Int32) ≤ x3) →
          vp_in x1 2 ∧ (x1 = 0 →
            wp_X3_hold ux x2 x3 (fun (ux_8 : Ob) =>
            post x3 ux_8 uy)) ∧ (x1 = 1 →
            wp_X3_hold uy x2 x3 (fun (uy_9 : Ob) =>
            post x3 ux uy_9))) ∧ ((¬ (0 : Int32) ≤ x3) →
          post (-14) ux uy)) ∧ ((¬ x3 ≤ 60) →
        post (-1) ux uy)))))
def wp_X7_drop (uf : Ob) (ux : Ob) (uy : Ob) (x1 : Int32) (post : Int32 → Ob → Ob → Prop) : Prop :=
  wp_X7_isAmong x1 2 (fun (r_1 : Int32) =>
  ((¬ r_1 = 0) →
    vp_in x1 2 ∧ (x1 = 0 →
      ((¬ (ux.1 0) = 0) →
        vp_in x1 2 ∧
        ∀ ux_6 : Ob, ux_6 = fs_i ux 0 0 →
        vp_in x1 2 ∧
        post (ux_6.1 1) ux_6 uy) ∧ (((ux.1 0) = 0) →
        post (-11) ux uy)) ∧ (x1 = 1 →
      ((¬ (uy.1 0) = 0) →
        vp_in x1 2 ∧
        ∀ uy_10 : Ob, uy_10 = fs_i uy 0 0 →
        vp_in x1 2 ∧
        post (uy_10.1 1) ux uy_10) ∧ (((uy.1 0) = 0) →
        post (-11) ux uy))) ∧ ((r_1 = 0) →
    post (-1) ux uy))
def wp_X7_item (uf : Ob) (ux : Ob) (uy : Ob) (x1 : Int32) (x2 : Int32) (x3 : Int32) (x4 : Int32) (post : Int32 → Ob → Ob → Prop) : Prop :=
  wp_X7_isAmong x1 2 (fun (r_1 : Int32) =>
  ((r_1 = 0) →
    post (-1) ux uy) ∧ ((¬ r_1 = 0) →
    wp_X7_isAmong x2 2 (fun (r_3 : Int32) =>
    ((¬ r_3 = 0) →
      vp_in x1 2 ∧ (x1 = 0 →
        wp_X3_faultAs ux x2 (fun (r_6 : Int32) =>
        ((r_6 = 0) →
          wp_X7_isAmong x3 (ux.1 1) (fun (r_8 : Int32) =>
          ((¬ r_8 = 0) →
            wp_X3_put ux x3 x4 (fun (ux_10 : Ob) =>
            post 1 ux_10 uy)) ∧ ((r_8 = 0) →
            post (-13) ux uy))) ∧ ((¬ r_6 = 0) →
          post r_6 ux uy))) ∧ (x1 = 1 →
        wp_X3_faultAs uy x2 (fun (r_11 : Int32) =>
        ((r_11 = 0) →
          wp_X7_isAmong x3 (uy.1 1) (fun (r_13 : Int32) =>
          ((¬ r_13 = 0) →
            wp_X3_put uy x3 x4 (fun (uy_15 : Ob) =>
            post 1 ux uy_15)) ∧ ((r_13 = 0) →
            post (-13) ux uy))) ∧ ((¬ r_11 = 0) →
          post r_11 ux uy)))) ∧ ((r_3 = 0) →
      post (-1) ux uy))))
def wp_X8_in (x1 : Int32) (x2 : Int32) (x3 : Int32) (post : Int32 → Prop) : Prop :=
  ((x1 < x2) →
    post 0) ∧ ((¬ x1 < x2) →
    ((x3 < x1) →
      post 0) ∧ ((¬ x3 < x1) →
      post 1))
def wp_X8_empty (u : Ob) (x1 : Int32) (x2 : Int32) (post : Ob → Prop) : Prop :=
  vp_in x1 83 ∧ ∀ u_2 : Ob, u_2 = fs_a u 13 (upd (u.2.1 13) x1.toNatClampNeg x2) →
  vp_in (2 * x1) 166 ∧ ∀ u_4 : Ob, u_4 = fs_a u_2 14 (upd (u_2.2.1 14) (2 * x1).toNatClampNeg 0) →
  vp_in ((2 * x1) + 1) 166 ∧ ∀ u_6 : Ob, u_6 = fs_a u_4 14 (upd (u_4.2.1 14) ((2 * x1) + 1).toNatClampNeg 0) →
  post u_6
def wp_X8_states (u : Ob) (x1 : Int32) (post : Int32 → Ob → Prop) : Prop :=
  wp_X8_in x1 1 8 (fun (r_1 : Int32) =>
  ((¬ r_1 = 0) →
    ∀ u_3 : Ob, u_3 = fs_i u 0 x1 →
    ∀ u_4 : Ob, u_4 = fs_i u_3 2 0 →
    wp_X8_empty u_4 81 0 (fun (u_5 : Ob) =>
    wp_X8_empty u_5 82 0 (fun (u_6 : Ob) =>
    post (u.1 0) u_6))) ∧ ((r_1 = 0) →
    post (-1) u))
def wp_X8_bag (u : Ob) (x1 : Int32) (x2 : Int32) (post : Int32 → Ob → Prop) : Prop :=
  wp_X8_in x1 0 1 (fun (r_1 : Int32) =>
  ((¬ r_1 = 0) →
    vp_in x1 2 ∧
    vp_in x1 2 ∧ ∀ u_5 : Ob, u_5 = fs_a u 1 (upd (u.2.1 1) x1.toNatClampNeg (vp_nar .boolean x2)) →
    wp_X8_empty u_5 81 0 (fun (u_6 : Ob) =>
    wp_X8_empty u_6 82 0 (fun (u_7 : Ob) =>
    (((u.2.1 1 x1.toNatClampNeg) = 0) →
      post 0 u_7) ∧ ((¬ (u.2.1 1 x1.toNatClampNeg) = 0) →
      post 1 u_7)))) ∧ ((r_1 = 0) →
    post (-1) u))
def wp_X8_isState (u : Ob) (x1 : Int32) (post : Int32 → Prop) : Prop :=
  wp_X8_in x1 0 ((u.1 0) - 1) (fun (r_1 : Int32) =>
  zb r_1 ∧ post r_1)
def wp_X8_isGood (u : Ob) (x1 : Int32) (x2 : Int32) (x3 : Int32) (x4 : Int32) (x5 : Int32) (post : Int32 → Prop) : Prop :=
  wp_X8_isState u x1 (fun (r_1 : Int32) =>
  jn (fun (w_3 : Int32) =>
    ((w_3 = 0) →
      post 0) ∧ ((¬ w_3 = 0) →
      ((x2 = 0) →
        post 1) ∧ ((¬ x2 = 0) →
        wp_X8_in x3 0 1 (fun (r_6 : Int32) =>
        ((r_6 = 0) →
          post 0) ∧ ((¬ r_6 = 0) →
          wp_X8_in x4 0 2 (fun (r_8 : Int32) =>
          ((r_8 = 0) →
            post 0) ∧ ((¬ r_8 = 0) →
            post 1))))))) (fun (JJ_2 : Int32 → Prop) =>
    ((r_1 = 0) →
      JJ_2 0) ∧ ((¬ r_1 = 0) →
      wp_X8_isState u x5 (fun (r_11 : Int32) =>
      ((r_11 = 0) →
        JJ_2 0) ∧ ((¬ r_11 = 0) →
        wp_X8_in x2 0 2 (fun (r_13 : Int32) =>
        ((r_13 = 0) →
          JJ_2 0) ∧ ((¬ r_13 = 0) →
          JJ_2 1)))))))
def wp_X8_put (u : Ob) (x1 : Int32) (x2 : Int32) (x3 : Int32) (x4 : Int32) (x5 : Int32) (post : Ob → Prop) : Prop :=
  vp_in (u.1 2) 20 ∧ ∀ u_2 : Ob, u_2 = fs_a u 3 (upd (u.2.1 3) (u.1 2).toNatClampNeg x1) →
  vp_in (u_2.1 2) 20 ∧ ∀ u_4 : Ob, u_4 = fs_a u_2 4 (upd (u_2.2.1 4) (u_2.1 2).toNatClampNeg x2) →
  jn (fun (w_6 : Int32) =>
    vp_in (u_4.1 2) 20 ∧ ∀ u_8 : Ob, u_8 = fs_a u_4 5 (upd (u_4.2.1 5) (u_4.1 2).toNatClampNeg w_6) →
    jn (fun (w_10 : Int32) =>
      vp_in (u_8.1 2) 20 ∧ ∀ u_12 : Ob, u_12 = fs_a u_8 6 (upd (u_8.2.1 6) (u_8.1 2).toNatClampNeg w_10) →
      vp_in (u_12.1 2) 20 ∧ ∀ u_14 : Ob, u_14 = fs_a u_12 7 (upd (u_12.2.1 7) (u_12.1 2).toNatClampNeg x5) →
      ∀ u_15 : Ob, u_15 = fs_i u_14 2 ((u_14.1 2) + 1) →
      wp_X8_empty u_15 82 0 (fun (u_16 : Ob) =>
      post u_16)) (fun (JJ_9 : Int32 → Prop) =>
      ((¬ x2 = 0) →
        JJ_9 x4) ∧ ((x2 = 0) →
        JJ_9 0))) (fun (JJ_5 : Int32 → Prop) =>
    ((¬ x2 = 0) →
      JJ_5 x3) ∧ ((x2 = 0) →
      JJ_5 0))
def wp_X8_arc (u : Ob) (x1 : Int32) (x2 : Int32) (x3 : Int32) (x4 : Int32) (x5 : Int32) (post : Int32 → Ob → Prop) : Prop :=
  wp_X8_isGood u x1 x2 x3 x4 x5 (fun (r_1 : Int32) =>
  ((¬ r_1 = 0) →
    ((¬ (u.1 2) = 20) →
      wp_X8_put u x1 x2 x3 x4 x5 (fun (u_4 : Ob) =>
      post ((u_4.1 2) - 1) u_4)) ∧ (((u.1 2) = 20) →
      post (-3) u)) ∧ ((r_1 = 0) →
    post (-1) u))
def wp_X8_unarc (u : Ob) (post : Int32 → Ob → Prop) : Prop :=
  ((¬ (u.1 2) = 0) →
    ∀ u_2 : Ob, u_2 = fs_i u 2 ((u.1 2) - 1) →
    wp_X8_empty u_2 82 0 (fun (u_3 : Ob) =>
    post (u_3.1 2) u_3)) ∧ (((u.1 2) = 0) →
    post (-2) u)
def wp_X8_isArc (u : Ob) (x1 : Int32) (post : Int32 → Prop) : Prop :=
  wp_X8_in x1 0 ((u.1 2) - 1) (fun (r_1 : Int32) =>
  zb r_1 ∧ post r_1)
def wp_X8_told (u : Ob) (x1 : Int32) (x2 : Int32) (post : Int32 → Prop) : Prop :=
  wp_X8_isArc u x1 (fun (r_1 : Int32) =>
  ((r_1 = 0) →
    post (-1)) ∧ ((¬ r_1 = 0) →
    wp_X8_in x2 0 4 (fun (r_3 : Int32) =>
    ((¬ r_3 = 0) →
      ((¬ x2 = 0) →
        ((¬ x2 = 1) →
          ((¬ x2 = 2) →
            ((¬ x2 = 3) →
              vp_in x1 20 ∧
              post (u.2.1 7 x1.toNatClampNeg)) ∧ ((x2 = 3) →
              vp_in x1 20 ∧
              post (u.2.1 6 x1.toNatClampNeg))) ∧ ((x2 = 2) →
            vp_in x1 20 ∧
            post (u.2.1 5 x1.toNatClampNeg))) ∧ ((x2 = 1) →
          vp_in x1 20 ∧
          post (u.2.1 4 x1.toNatClampNeg))) ∧ ((x2 = 0) →
        vp_in x1 20 ∧
        post (u.2.1 3 x1.toNatClampNeg))) ∧ ((r_3 = 0) →
      post (-1)))))
def wp_X8_type (u : Ob) (x1 : Int64) (x2 : Int32) (post : Int32 → Ob → Prop) : Prop :=
  wp_X8_in x2 1 8 (fun (r_1 : Int32) =>
  ((¬ r_1 = 0) →
    ∃ n : Nat, lq1 (fun (LL_3 : Int32 → Prop) (v4_4 : Int32) =>
      ((x2 ≤ v4_4) →
        ((((u.1 9) + x2) ≤ 130) →
          ∃ n : Nat, lq2 (fun (LL_7 : Int32 → Ob → Prop) (v4_8 : Int32) (u_9 : Ob) =>
            ((v4_8 < 0) →
              post (u_9.1 9) u_9) ∧ ((¬ v4_8 < 0) →
              vp_in (u_9.1 9) 130 ∧ ∀ u_12 : Ob, u_12 = fs_a u_9 8 (upd (u_9.2.1 8) (u_9.1 9).toNatClampNeg (Int64.toInt32 ((j_lshr x1 (8 * v4_8)) &&& 255))) →
              ∀ u_13 : Ob, u_13 = fs_i u_12 9 ((u_12.1 9) + 1) →
              LL_7 (v4_8 + (-1)) u_13)) n (x2 - 1) u) ∧ ((¬ ((u.1 9) + x2) ≤ 130) →
          post (-3) u)) ∧ ((¬ x2 ≤ v4_4) →
        wp_X8_in (Int64.toInt32 ((j_lshr x1 (8 * v4_4)) &&& 255)) 32 126 (fun (r_15 : Int32) =>
        ((¬ r_15 = 0) →
          LL_3 (v4_4 + 1)) ∧ ((r_15 = 0) →
          post (-1) u)))) n 0) ∧ ((r_1 = 0) →
    post (-1) u))
def wp_X8_next (u : Ob) (post : Int32 → Ob → Prop) : Prop :=
  ∃ n : Nat, lq1 (fun (LL_1 : Ob → Prop) (u_2 : Ob) =>
    jn (  (((u_2.1 9) ≤ (u_2.1 10)) →
        post 0 u_2) ∧ ((¬ (u_2.1 9) ≤ (u_2.1 10)) →
        vp_in (u_2.1 10) 130 ∧
        post (u_2.2.1 8 (u_2.1 10).toNatClampNeg) u_2)) (fun (JJ_3 : Prop) =>
      (((u_2.1 9) ≤ (u_2.1 10)) →
        JJ_3) ∧ ((¬ (u_2.1 9) ≤ (u_2.1 10)) →
        vp_in (u_2.1 10) 130 ∧
        ((¬ (u_2.2.1 8 (u_2.1 10).toNatClampNeg) = 32) →
          JJ_3) ∧ (((u_2.2.1 8 (u_2.1 10).toNatClampNeg) = 32) →
          ∀ u_9 : Ob, u_9 = fs_i u_2 10 ((u_2.1 10) + 1) →
          LL_1 u_9)))) n u
def wp_X8_passed (u : Ob) (x1 : Int32) (x2 : Int32) (post : Int32 → Ob → Prop) : Prop :=
  wp_X8_next u (fun (r_1 : Int32) (u_2 : Ob) =>
  jn (  ∀ u_4 : Ob, u_4 = fs_i u_2 11 1 →
    post 0 u_4) (fun (JJ_3 : Prop) =>
    ((¬ (u_2.1 11) = 0) →
      JJ_3) ∧ (((u_2.1 11) = 0) →
      wp_X8_in (r_1 - x1) 0 (x2 - 1) (fun (r_6 : Int32) =>
      ((¬ r_6 = 0) →
        ∀ u_8 : Ob, u_8 = fs_i u_2 10 ((u_2.1 10) + 1) →
        post (r_1 - x1) u_8) ∧ ((r_6 = 0) →
        JJ_3)))))
def wp_X8_act (u : Ob) (post : Int32 → Ob → Prop) : Prop :=
  wp_X8_next u (fun (r_1 : Int32) (u_2 : Ob) =>
  jn (fun (w_4 : Int32) =>
    jn (  ∀ u_6 : Ob, u_6 = fs_i u_2 11 1 →
      post 0 u_6) (fun (JJ_5 : Prop) =>
      ((¬ (u_2.1 11) = 0) →
        JJ_5) ∧ (((u_2.1 11) = 0) →
        (((0 : Int32) ≤ w_4) →
          ∀ u_9 : Ob, u_9 = fs_i u_2 10 ((u_2.1 10) + 1) →
          post w_4 u_9) ∧ ((¬ (0 : Int32) ≤ w_4) →
          JJ_5)))) (fun (JJ_3 : Int32 → Prop) =>
    ((¬ r_1 = 45) →
      ((¬ r_1 = 33) →
        ((¬ r_1 = 63) →
          JJ_3 (-1)) ∧ ((r_1 = 63) →
          JJ_3 2)) ∧ ((r_1 = 33) →
        JJ_3 1)) ∧ ((r_1 = 45) →
      JJ_3 0)))
def wp_X8_read (u : Ob) (post : Int32 → Ob → Prop) : Prop :=
  ∀ u_1 : Ob, u_1 = fs_i u 10 0 →
  ∀ u_2 : Ob, u_2 = fs_i u_1 11 0 →
  ∃ n : Nat, lq3 (fun (LL_3 : Int32 → Int32 → Ob → Prop) (v2_4 : Int32) (v1_5 : Int32) (u_6 : Ob) =>
    ((v2_4 = 0) →
      jn (fun (w_9 : Int32) (u_10 : Ob) =>
        ∀ u_11 : Ob, u_11 = fs_i u_10 9 0 →
        ((w_9 = 0) →
          ∀ u_13 : Ob, u_13 = fs_i u_11 2 0 →
          ∃ n : Nat, lq2 (fun (LL_14 : Int32 → Ob → Prop) (v5_15 : Int32) (u_16 : Ob) =>
            ((v1_5 ≤ v5_15) →
              post v1_5 u_16) ∧ ((¬ v1_5 ≤ v5_15) →
              vp_in (5 * v5_15) 100 ∧
              vp_in ((5 * v5_15) + 1) 100 ∧
              vp_in ((5 * v5_15) + 2) 100 ∧
              vp_in ((5 * v5_15) + 3) 100 ∧
              vp_in ((5 * v5_15) + 4) 100 ∧
              wp_X8_put u_16 (u_16.2.1 12 (5 * v5_15).toNatClampNeg) (u_16.2.1 12 ((5 * v5_15) + 1).toNatClampNeg) (u_16.2.1 12 ((5 * v5_15) + 2).toNatClampNeg) (u_16.2.1 12 ((5 * v5_15) + 3).toNatClampNeg) (u_16.2.1 12 ((5 * v5_15) + 4).toNatClampNeg) (fun (u_23 : Ob) =>
              LL_14 (v5_15 + 1) u_23))) n 0 u_13) ∧ ((¬ w_9 = 0) →
          post ((-20) - (u_10.1 10)) u_11)) (fun (JJ_8 : Int32 → Ob → Prop) =>
        (((u_6.1 11) = 0) →
          wp_X8_next u_6 (fun (r_26 : Int32) (u_27 : Ob) =>
          JJ_8 r_26 u_27)) ∧ ((¬ (u_6.1 11) = 0) →
          JJ_8 1 u_6))) ∧ ((¬ v2_4 = 0) →
      wp_X8_passed u_6 48 (u_6.1 0) (fun (r_28 : Int32) (u_29 : Ob) =>
      vp_in (5 * v1_5) 100 ∧ ∀ u_31 : Ob, u_31 = fs_a u_29 12 (upd (u_29.2.1 12) (5 * v1_5).toNatClampNeg r_28) →
      wp_X8_act u_31 (fun (r_32 : Int32) (u_33 : Ob) =>
      vp_in ((5 * v1_5) + 1) 100 ∧ ∀ u_35 : Ob, u_35 = fs_a u_33 12 (upd (u_33.2.1 12) ((5 * v1_5) + 1).toNatClampNeg r_32) →
      jn (fun (w_37 : Int32) (u_38 : Ob) =>
        vp_in ((5 * v1_5) + 3) 100 ∧ ∀ u_40 : Ob, u_40 = fs_a u_38 12 (upd (u_38.2.1 12) ((5 * v1_5) + 3).toNatClampNeg w_37) →
        jn (fun (w_42 : Int32) (u_43 : Ob) =>
          vp_in ((5 * v1_5) + 2) 100 ∧ ∀ u_45 : Ob, u_45 = fs_a u_43 12 (upd (u_43.2.1 12) ((5 * v1_5) + 2).toNatClampNeg w_42) →
          wp_X8_passed u_45 48 (u_45.1 0) (fun (r_46 : Int32) (u_47 : Ob) =>
          vp_in ((5 * v1_5) + 4) 100 ∧ ∀ u_49 : Ob, u_49 = fs_a u_47 12 (upd (u_47.2.1 12) ((5 * v1_5) + 4).toNatClampNeg r_46) →
          jn (fun (w_51 : Int32) (u_52 : Ob) =>
            jn (fun (w_54 : Int32) =>
              ∀ u_55 : Ob, u_55 = fs_i u_52 10 ((u_52.1 10) + w_54) →
              LL_3 w_51 (v1_5 + 1) u_55) (fun (JJ_53 : Int32 → Prop) =>
              ((w_51 = 0) →
                JJ_53 0) ∧ ((¬ w_51 = 0) →
                JJ_53 1))) (fun (JJ_50 : Int32 → Ob → Prop) =>
            ((¬ (u_49.1 11) = 0) →
              JJ_50 0 u_49) ∧ (((u_49.1 11) = 0) →
              wp_X8_next u_49 (fun (r_58 : Int32) (u_59 : Ob) =>
              ((¬ r_58 = 59) →
                JJ_50 0 u_59) ∧ ((r_58 = 59) →
                (((20 : Int32) ≤ (v1_5 + 1)) →
                  JJ_50 0 u_59) ∧ ((¬ (20 : Int32) ≤ (v1_5 + 1)) →
                  JJ_50 1 u_59))))))) (fun (JJ_41 : Int32 → Ob → Prop) =>
          ((¬ r_32 = 0) →
            wp_X8_passed u_40 48 2 (fun (r_63 : Int32) (u_64 : Ob) =>
            JJ_41 r_63 u_64)) ∧ ((r_32 = 0) →
            JJ_41 0 u_40))) (fun (JJ_36 : Int32 → Ob → Prop) =>
        ((¬ r_32 = 0) →
          wp_X8_passed u_35 97 3 (fun (r_66 : Int32) (u_67 : Ob) =>
          JJ_36 r_66 u_67)) ∧ ((r_32 = 0) →
          JJ_36 0 u_35)))))) n 1 0 u_2
def wp_X8_spot (x1 : Int32) (x2 : Int32) (x3 : Int32) (post : Int32 → Prop) : Prop :=
  post (((22 * x1) + (11 * x2)) + x3)
def wp_X8_copy (u : Ob) (x1 : Int32) (x2 : Int32) (post : Ob → Prop) : Prop :=
  vp_in x1 83 ∧
  vp_in x2 83 ∧ ∀ u_3 : Ob, u_3 = fs_a u 13 (upd (u.2.1 13) x2.toNatClampNeg (u.2.1 13 x1.toNatClampNeg)) →
  ∃ n : Nat, lq2 (fun (LL_4 : Int32 → Ob → Prop) (v3_5 : Int32) (u_6 : Ob) =>
    (((2 : Int32) ≤ v3_5) →
      post u_6) ∧ ((¬ (2 : Int32) ≤ v3_5) →
      vp_in ((2 * x1) + v3_5) 166 ∧
      vp_in ((2 * x2) + v3_5) 166 ∧ ∀ u_10 : Ob, u_10 = fs_a u_6 14 (upd (u_6.2.1 14) ((2 * x2) + v3_5).toNatClampNeg (u_6.2.1 14 ((2 * x1) + v3_5).toNatClampNeg)) →
      ∃ n : Nat, lq2 (fun (LL_11 : Int32 → Ob → Prop) (v4_12 : Int32) (u_13 : Ob) =>
        vp_in ((2 * x1) + v3_5) 166 ∧
        (((u_13.2.1 14 ((2 * x1) + v3_5).toNatClampNeg) ≤ v4_12) →
          LL_4 (v3_5 + 1) u_13) ∧ ((¬ (u_13.2.1 14 ((2 * x1) + v3_5).toNatClampNeg) ≤ v4_12) →
          wp_X8_spot x2 v3_5 v4_12 (fun (r_16 : Int32) =>
          wp_X8_spot x1 v3_5 v4_12 (fun (r_17 : Int32) =>
          vp_in r_17 1826 ∧
          vp_in r_16 1826 ∧ ∀ u_20 : Ob, u_20 = fs_a u_13 15 (upd (u_13.2.1 15) r_16.toNatClampNeg (u_13.2.1 15 r_17.toNatClampNeg)) →
          LL_11 (v4_12 + 1) u_20)))) n 0 u_10)) n 0 u_3
def wp_X8_takeOut (u : Ob) (x1 : Int32) (x2 : Int32) (x3 : Int32) (post : Ob → Prop) : Prop :=
  vp_in ((2 * x1) + x2) 166 ∧
  vp_in ((2 * x1) + x2) 166 ∧ ∀ u_3 : Ob, u_3 = fs_a u 14 (upd (u.2.1 14) ((2 * x1) + x2).toNatClampNeg ((u.2.1 14 ((2 * x1) + x2).toNatClampNeg) - 1)) →
  ∃ n : Nat, lq2 (fun (LL_4 : Int32 → Ob → Prop) (v4_5 : Int32) (u_6 : Ob) =>
    vp_in ((2 * x1) + x2) 166 ∧
    (((u_6.2.1 14 ((2 * x1) + x2).toNatClampNeg) ≤ v4_5) →
      post u_6) ∧ ((¬ (u_6.2.1 14 ((2 * x1) + x2).toNatClampNeg) ≤ v4_5) →
      wp_X8_spot x1 x2 v4_5 (fun (r_9 : Int32) =>
      wp_X8_spot x1 x2 (v4_5 + 1) (fun (r_10 : Int32) =>
      vp_in r_10 1826 ∧
      vp_in r_9 1826 ∧ ∀ u_13 : Ob, u_13 = fs_a u_6 15 (upd (u_6.2.1 15) r_9.toNatClampNeg (u_6.2.1 15 r_10.toNatClampNeg)) →
      LL_4 (v4_5 + 1) u_13)))) n x3 u_3
def wp_X8_putIn (u : Ob) (x1 : Int32) (x2 : Int32) (x3 : Int32) (x4 : Int32) (post : Ob → Prop) : Prop :=
  vp_in ((2 * x1) + x2) 166 ∧
  ∃ n : Nat, lq2 (fun (LL_2 : Int32 → Ob → Prop) (v5_3 : Int32) (u_4 : Ob) =>
    ((v5_3 ≤ x3) →
      wp_X8_spot x1 x2 x3 (fun (r_6 : Int32) =>
      vp_in r_6 1826 ∧ ∀ u_8 : Ob, u_8 = fs_a u_4 15 (upd (u_4.2.1 15) r_6.toNatClampNeg x4) →
      vp_in ((2 * x1) + x2) 166 ∧
      vp_in ((2 * x1) + x2) 166 ∧ ∀ u_11 : Ob, u_11 = fs_a u_8 14 (upd (u_8.2.1 14) ((2 * x1) + x2).toNatClampNeg ((u_8.2.1 14 ((2 * x1) + x2).toNatClampNeg) + 1)) →
      post u_11)) ∧ ((¬ v5_3 ≤ x3) →
      wp_X8_spot x1 x2 v5_3 (fun (r_12 : Int32) =>
      wp_X8_spot x1 x2 (v5_3 - 1) (fun (r_13 : Int32) =>
      vp_in r_13 1826 ∧
      vp_in r_12 1826 ∧ ∀ u_16 : Ob, u_16 = fs_a u_4 15 (upd (u_4.2.1 15) r_12.toNatClampNeg (u_4.2.1 15 r_13.toNatClampNeg)) →
      LL_2 (v5_3 + (-1)) u_16)))) n (u.2.1 14 ((2 * x1) + x2).toNatClampNeg) u
def wp_X8_inOrder (u : Ob) (x1 : Int32) (x2 : Int32) (x3 : Int32) (post : Int32 → Prop) : Prop :=
  ∃ n : Nat, lq1 (fun (LL_1 : Int32 → Prop) (v4_2 : Int32) =>
    vp_in ((2 * x1) + x2) 166 ∧
    (((u.2.1 14 ((2 * x1) + x2).toNatClampNeg) ≤ v4_2) →
      post v4_2) ∧ ((¬ (u.2.1 14 ((2 * x1) + x2).toNatClampNeg) ≤ v4_2) →
      wp_X8_spot x1 x2 v4_2 (fun (r_5 : Int32) =>
      vp_in r_5 1826 ∧
      ((x3 < (u.2.1 15 r_5.toNatClampNeg)) →
        post v4_2) ∧ ((¬ x3 < (u.2.1 15 r_5.toNatClampNeg)) →
        LL_1 (v4_2 + 1))))) n 0
def wp_X8_firstOf (u : Ob) (x1 : Int32) (x2 : Int32) (x3 : Int32) (post : Int32 → Prop) : Prop :=
  ∃ n : Nat, lq1 (fun (LL_1 : Int32 → Prop) (v4_2 : Int32) =>
    vp_in ((2 * x1) + x2) 166 ∧
    (((u.2.1 14 ((2 * x1) + x2).toNatClampNeg) ≤ v4_2) →
      post (-1)) ∧ ((¬ (u.2.1 14 ((2 * x1) + x2).toNatClampNeg) ≤ v4_2) →
      wp_X8_spot x1 x2 v4_2 (fun (r_5 : Int32) =>
      vp_in r_5 1826 ∧
      ((¬ (u.2.1 15 r_5.toNatClampNeg) = x3) →
        LL_1 (v4_2 + 1)) ∧ (((u.2.1 15 r_5.toNatClampNeg) = x3) →
        post v4_2)))) n 0
def wp_X8_isBelow (u : Ob) (x1 : Int32) (x2 : Int32) (post : Int32 → Prop) : Prop :=
  vp_in x1 83 ∧
  vp_in x2 83 ∧
  jn (fun (w_4 : Int32) =>
    ∃ n : Nat, lq2 (fun (LL_5 : Int32 → Int32 → Prop) (v4_6 : Int32) (v3_7 : Int32) =>
      (((2 : Int32) ≤ v4_6) →
        zb v3_7 ∧ post v3_7) ∧ ((¬ (2 : Int32) ≤ v4_6) →
        ((v3_7 = 0) →
          zb v3_7 ∧ post v3_7) ∧ ((¬ v3_7 = 0) →
          ∃ n : Nat, lq2 (fun (LL_10 : Int32 → Int32 → Prop) (v6_11 : Int32) (v5_12 : Int32) =>
            vp_in ((2 * x2) + v4_6) 166 ∧
            jn (  vp_in ((2 * x1) + v4_6) 166 ∧
              jn (fun (w_17 : Int32) =>
                LL_5 (v4_6 + 1) w_17) (fun (JJ_16 : Int32 → Prop) =>
                ((¬ v5_12 = (u.2.1 14 ((2 * x1) + v4_6).toNatClampNeg)) →
                  JJ_16 0) ∧ ((v5_12 = (u.2.1 14 ((2 * x1) + v4_6).toNatClampNeg)) →
                  JJ_16 1))) (fun (JJ_14 : Prop) =>
              (((u.2.1 14 ((2 * x2) + v4_6).toNatClampNeg) ≤ v6_11) →
                JJ_14) ∧ ((¬ (u.2.1 14 ((2 * x2) + v4_6).toNatClampNeg) ≤ v6_11) →
                vp_in ((2 * x1) + v4_6) 166 ∧
                (((u.2.1 14 ((2 * x1) + v4_6).toNatClampNeg) ≤ v5_12) →
                  JJ_14) ∧ ((¬ (u.2.1 14 ((2 * x1) + v4_6).toNatClampNeg) ≤ v5_12) →
                  wp_X8_spot x2 v4_6 v6_11 (fun (r_22 : Int32) =>
                  vp_in r_22 1826 ∧
                  wp_X8_spot x1 v4_6 v5_12 (fun (r_24 : Int32) =>
                  vp_in r_24 1826 ∧
                  jn (fun (w_27 : Int32) =>
                    LL_10 (v6_11 + 1) (v5_12 + w_27)) (fun (JJ_26 : Int32 → Prop) =>
                    ((¬ (u.2.1 15 r_22.toNatClampNeg) = (u.2.1 15 r_24.toNatClampNeg)) →
                      JJ_26 0) ∧ (((u.2.1 15 r_22.toNatClampNeg) = (u.2.1 15 r_24.toNatClampNeg)) →
                      JJ_26 1)))))))) n 0 0))) n 0 w_4) (fun (JJ_3 : Int32 → Prop) =>
    ((¬ (u.2.1 13 x1.toNatClampNeg) = (u.2.1 13 x2.toNatClampNeg)) →
      JJ_3 0) ∧ (((u.2.1 13 x1.toNatClampNeg) = (u.2.1 13 x2.toNatClampNeg)) →
      JJ_3 1))
def wp_X8_go (u : Ob) (x1 : Int32) (post : Int32 → Ob → Prop) : Prop :=
  wp_X8_isArc u x1 (fun (r_1 : Int32) =>
  ((¬ r_1 = 0) →
    vp_in x1 20 ∧
    vp_in x1 20 ∧
    vp_in x1 20 ∧
    vp_in 82 83 ∧
    (((u.2.1 3 x1.toNatClampNeg) = (u.2.1 13 (82 : Int32).toNatClampNeg)) →
      vp_in x1 20 ∧
      jn (fun (u_10 : Ob) =>
        vp_in x1 20 ∧
        vp_in 82 83 ∧ ∀ u_13 : Ob, u_13 = fs_a u_10 13 (upd (u_10.2.1 13) (82 : Int32).toNatClampNeg (u_10.2.1 7 x1.toNatClampNeg)) →
        vp_in 82 83 ∧
        post (u_13.2.1 13 (82 : Int32).toNatClampNeg) u_13) (fun (JJ_9 : Ob → Prop) =>
        ((¬ (u.2.1 4 x1.toNatClampNeg) = 2) →
          vp_in x1 20 ∧
          ((¬ (u.2.1 4 x1.toNatClampNeg) = 1) →
            JJ_9 u) ∧ (((u.2.1 4 x1.toNatClampNeg) = 1) →
            vp_in (164 + (u.2.1 5 x1.toNatClampNeg)) 166 ∧
            ((¬ (u.2.1 14 (164 + (u.2.1 5 x1.toNatClampNeg)).toNatClampNeg) = 10) →
              vp_in (u.2.1 5 x1.toNatClampNeg) 2 ∧
              jn (fun (w_22 : Int32) =>
                wp_X8_putIn u 82 (u.2.1 5 x1.toNatClampNeg) w_22 (u.2.1 6 x1.toNatClampNeg) (fun (u_23 : Ob) =>
                JJ_9 u_23)) (fun (JJ_21 : Int32 → Prop) =>
                (((u.2.1 1 (u.2.1 5 x1.toNatClampNeg).toNatClampNeg) = 0) →
                  vp_in (164 + (u.2.1 5 x1.toNatClampNeg)) 166 ∧
                  JJ_21 (u.2.1 14 (164 + (u.2.1 5 x1.toNatClampNeg)).toNatClampNeg)) ∧ ((¬ (u.2.1 1 (u.2.1 5 x1.toNatClampNeg).toNatClampNeg) = 0) →
                  wp_X8_inOrder u 82 (u.2.1 5 x1.toNatClampNeg) (u.2.1 6 x1.toNatClampNeg) (fun (r_26 : Int32) =>
                  JJ_21 r_26)))) ∧ (((u.2.1 14 (164 + (u.2.1 5 x1.toNatClampNeg)).toNatClampNeg) = 10) →
              post (-3) u))) ∧ (((u.2.1 4 x1.toNatClampNeg) = 2) →
          wp_X8_firstOf u 82 (u.2.1 5 x1.toNatClampNeg) (u.2.1 6 x1.toNatClampNeg) (fun (r_27 : Int32) =>
          ((r_27 < 0) →
            post (-2) u) ∧ ((¬ r_27 < 0) →
            jn (  wp_X8_takeOut u 82 (u.2.1 5 x1.toNatClampNeg) r_27 (fun (u_30 : Ob) =>
              JJ_9 u_30)) (fun (JJ_29 : Prop) =>
              ((r_27 ≤ 0) →
                JJ_29) ∧ ((¬ r_27 ≤ 0) →
                vp_in (u.2.1 5 x1.toNatClampNeg) 2 ∧
                ((¬ (u.2.1 1 (u.2.1 5 x1.toNatClampNeg).toNatClampNeg) = 0) →
                  JJ_29) ∧ (((u.2.1 1 (u.2.1 5 x1.toNatClampNeg).toNatClampNeg) = 0) →
                  post (-2) u)))))))) ∧ ((¬ (u.2.1 3 x1.toNatClampNeg) = (u.2.1 13 (82 : Int32).toNatClampNeg)) →
      post (-2) u)) ∧ ((r_1 = 0) →
    post (-1) u))
def wp_X8_lose (u : Ob) (x1 : Int32) (x2 : Int32) (post : Int32 → Ob → Prop) : Prop :=
  wp_X8_in x1 0 1 (fun (r_1 : Int32) =>
  ((r_1 = 0) →
    post (-1) u) ∧ ((¬ r_1 = 0) →
    vp_in (164 + x1) 166 ∧
    wp_X8_in x2 0 ((u.2.1 14 (164 + x1).toNatClampNeg) - 1) (fun (r_4 : Int32) =>
    ((¬ r_4 = 0) →
      wp_X8_spot 82 x1 x2 (fun (r_6 : Int32) =>
      vp_in r_6 1826 ∧
      wp_X8_takeOut u 82 x1 x2 (fun (u_8 : Ob) =>
      post (u.2.1 15 r_6.toNatClampNeg) u_8))) ∧ ((r_4 = 0) →
      post (-1) u))))
def wp_X8_now (u : Ob) (x1 : Int32) (x2 : Int32) (post : Int32 → Prop) : Prop :=
  ((¬ x2 = (-2)) →
    wp_X8_in x1 0 1 (fun (r_2 : Int32) =>
    ((r_2 = 0) →
      post (-1)) ∧ ((¬ r_2 = 0) →
      vp_in (164 + x1) 166 ∧
      wp_X8_in x2 (-1) ((u.2.1 14 (164 + x1).toNatClampNeg) - 1) (fun (r_5 : Int32) =>
      ((¬ r_5 = 0) →
        ((¬ x2 = (-1)) →
          wp_X8_spot 82 x1 x2 (fun (r_8 : Int32) =>
          vp_in r_8 1826 ∧
          post (u.2.1 15 r_8.toNatClampNeg))) ∧ ((x2 = (-1)) →
          vp_in (164 + x1) 166 ∧
          post (u.2.1 14 (164 + x1).toNatClampNeg))) ∧ ((r_5 = 0) →
        post (-1)))))) ∧ ((x2 = (-2)) →
    vp_in 82 83 ∧
    post (u.2.1 13 (82 : Int32).toNatClampNeg))
def wp_X8_reset (u : Ob) (post : Int32 → Ob → Prop) : Prop :=
  wp_X8_empty u 82 0 (fun (u_1 : Ob) =>
  post 1 u_1)
def wp_X8_aim (u : Ob) (x1 : Int32) (post : Int32 → Ob → Prop) : Prop :=
  wp_X8_isState u x1 (fun (r_1 : Int32) =>
  ((¬ r_1 = 0) →
    wp_X8_empty u 81 x1 (fun (u_3 : Ob) =>
    post 1 u_3)) ∧ ((r_1 = 0) →
    post (-1) u))
def wp_X8_want (u : Ob) (x1 : Int32) (x2 : Int32) (post : Int32 → Ob → Prop) : Prop :=
  wp_X8_in x1 0 1 (fun (r_1 : Int32) =>
  ((r_1 = 0) →
    post (-1) u) ∧ ((¬ r_1 = 0) →
    wp_X8_in x2 0 2 (fun (r_3 : Int32) =>
    ((¬ r_3 = 0) →
      vp_in (162 + x1) 166 ∧
      ((¬ (u.2.1 14 (162 + x1).toNatClampNeg) = 10) →
        vp_in x1 2 ∧
        jn (fun (w_9 : Int32) =>
          wp_X8_putIn u 81 x1 w_9 x2 (fun (u_10 : Ob) =>
          vp_in (162 + x1) 166 ∧
          post (u_10.2.1 14 (162 + x1).toNatClampNeg) u_10)) (fun (JJ_8 : Int32 → Prop) =>
          (((u.2.1 1 x1.toNatClampNeg) = 0) →
            vp_in (162 + x1) 166 ∧
            JJ_8 (u.2.1 14 (162 + x1).toNatClampNeg)) ∧ ((¬ (u.2.1 1 x1.toNatClampNeg) = 0) →
            wp_X8_inOrder u 81 x1 x2 (fun (r_14 : Int32) =>
            JJ_8 r_14)))) ∧ (((u.2.1 14 (162 + x1).toNatClampNeg) = 10) →
        post (-3) u)) ∧ ((r_3 = 0) →
      post (-1) u))))
def wp_X8_ahead (u : Ob) (x1 : Int32) (x2 : Int32) (post : Ob → Prop) : Prop :=
  wp_X8_copy u x1 80 (fun (u_1 : Ob) =>
  vp_in x2 20 ∧
  vp_in 80 83 ∧ ∀ u_4 : Ob, u_4 = fs_a u_1 13 (upd (u_1.2.1 13) (80 : Int32).toNatClampNeg (u_1.2.1 3 x2.toNatClampNeg)) →
  vp_in x2 20 ∧
  vp_in x2 20 ∧
  vp_in (160 + (u_4.2.1 5 x2.toNatClampNeg)) 166 ∧
  vp_in x2 20 ∧
  ((¬ (u_4.2.1 4 x2.toNatClampNeg) = 2) →
    vp_in x2 20 ∧
    ((¬ (u_4.2.1 4 x2.toNatClampNeg) = 1) →
      post u_4) ∧ (((u_4.2.1 4 x2.toNatClampNeg) = 1) →
      vp_in (u_4.2.1 5 x2.toNatClampNeg) 2 ∧
      jn (fun (w_14 : Int32) =>
        ((w_14 < 0) →
          post u_4) ∧ ((¬ w_14 < 0) →
          wp_X8_takeOut u_4 80 (u_4.2.1 5 x2.toNatClampNeg) w_14 (fun (u_16 : Ob) =>
          post u_16))) (fun (JJ_13 : Int32 → Prop) =>
        (((u_4.2.1 1 (u_4.2.1 5 x2.toNatClampNeg).toNatClampNeg) = 0) →
          (((u_4.2.1 14 (160 + (u_4.2.1 5 x2.toNatClampNeg)).toNatClampNeg) ≤ 0) →
            JJ_13 (-1)) ∧ ((¬ (u_4.2.1 14 (160 + (u_4.2.1 5 x2.toNatClampNeg)).toNatClampNeg) ≤ 0) →
            wp_X8_spot 80 (u_4.2.1 5 x2.toNatClampNeg) ((u_4.2.1 14 (160 + (u_4.2.1 5 x2.toNatClampNeg)).toNatClampNeg) - 1) (fun (r_19 : Int32) =>
            vp_in r_19 1826 ∧
            ((¬ (u_4.2.1 15 r_19.toNatClampNeg) = (u_4.2.1 6 x2.toNatClampNeg)) →
              JJ_13 (-1)) ∧ (((u_4.2.1 15 r_19.toNatClampNeg) = (u_4.2.1 6 x2.toNatClampNeg)) →
              JJ_13 ((u_4.2.1 14 (160 + (u_4.2.1 5 x2.toNatClampNeg)).toNatClampNeg) - 1))))) ∧ ((¬ (u_4.2.1 1 (u_4.2.1 5 x2.toNatClampNeg).toNatClampNeg) = 0) →
          wp_X8_firstOf u_4 80 (u_4.2.1 5 x2.toNatClampNeg) (u_4.2.1 6 x2.toNatClampNeg) (fun (r_22 : Int32) =>
          JJ_13 r_22))))) ∧ (((u_4.2.1 4 x2.toNatClampNeg) = 2) →
    vp_in (u_4.2.1 5 x2.toNatClampNeg) 2 ∧
    jn (fun (w_25 : Int32) =>
      wp_X8_putIn u_4 80 (u_4.2.1 5 x2.toNatClampNeg) w_25 (u_4.2.1 6 x2.toNatClampNeg) (fun (u_26 : Ob) =>
      post u_26)) (fun (JJ_24 : Int32 → Prop) =>
      (((u_4.2.1 1 (u_4.2.1 5 x2.toNatClampNeg).toNatClampNeg) = 0) →
        JJ_24 0) ∧ ((¬ (u_4.2.1 1 (u_4.2.1 5 x2.toNatClampNeg).toNatClampNeg) = 0) →
        wp_X8_inOrder u_4 80 (u_4.2.1 5 x2.toNatClampNeg) (u_4.2.1 6 x2.toNatClampNeg) (fun (r_28 : Int32) =>
        JJ_24 r_28)))))
def wp_X8_isNew (u : Ob) (post : Int32 → Prop) : Prop :=
  ∃ n : Nat, lq2 (fun (LL_1 : Int32 → Int32 → Prop) (v2_2 : Int32) (v1_3 : Int32) =>
    (((u.1 16) ≤ v2_2) →
      zb v1_3 ∧ post v1_3) ∧ ((¬ (u.1 16) ≤ v2_2) →
      ((v1_3 = 0) →
        zb v1_3 ∧ post v1_3) ∧ ((¬ v1_3 = 0) →
        wp_X8_isBelow u v2_2 80 (fun (r_6 : Int32) =>
        jn (fun (w_8 : Int32) =>
          LL_1 (v2_2 + 1) w_8) (fun (JJ_7 : Int32 → Prop) =>
          ((¬ r_6 = 0) →
            JJ_7 0) ∧ ((r_6 = 0) →
            JJ_7 1)))))) n 0 1
def wp_X8_find (u : Ob) (x1 : Int32) (x2 : Int32) (x3 : Int32) (post : Ob → Prop) : Prop :=
  wp_X8_copy u 80 (u.1 16) (fun (u_1 : Ob) =>
  vp_in (u_1.1 16) 80 ∧ ∀ u_3 : Ob, u_3 = fs_a u_1 17 (upd (u_1.2.1 17) (u_1.1 16).toNatClampNeg x1) →
  vp_in (u_3.1 16) 80 ∧ ∀ u_5 : Ob, u_5 = fs_a u_3 18 (upd (u_3.2.1 18) (u_3.1 16).toNatClampNeg x2) →
  vp_in (u_5.1 16) 80 ∧ ∀ u_7 : Ob, u_7 = fs_a u_5 19 (upd (u_5.2.1 19) (u_5.1 16).toNatClampNeg x3) →
  ∀ u_8 : Ob, u_8 = fs_i u_7 16 ((u_7.1 16) + 1) →
  post u_8)
def wp_X8_search (u : Ob) (post : Int32 → Ob → Prop) : Prop :=
  ∀ u_1 : Ob, u_1 = fs_i u 16 0 →
  wp_X8_copy u_1 81 80 (fun (u_2 : Ob) =>
  wp_X8_find u_2 0 (-2) (-2) (fun (u_3 : Ob) =>
  ∃ n : Nat, lq2 (fun (LL_4 : Int32 → Ob → Prop) (v1_5 : Int32) (u_6 : Ob) =>
    (((u_6.1 16) ≤ v1_5) →
      post 1 u_6) ∧ ((¬ (u_6.1 16) ≤ v1_5) →
      ∃ n : Nat, lq2 (fun (LL_8 : Int32 → Ob → Prop) (v2_9 : Int32) (u_10 : Ob) =>
        (((u_10.1 2) ≤ v2_9) →
          LL_4 (v1_5 + 1) u_10) ∧ ((¬ (u_10.1 2) ≤ v2_9) →
          vp_in v2_9 20 ∧
          vp_in v1_5 83 ∧
          ((¬ (u_10.2.1 7 v2_9.toNatClampNeg) = (u_10.2.1 13 v1_5.toNatClampNeg)) →
            LL_8 (v2_9 + 1) u_10) ∧ (((u_10.2.1 7 v2_9.toNatClampNeg) = (u_10.2.1 13 v1_5.toNatClampNeg)) →
            wp_X8_ahead u_10 v1_5 v2_9 (fun (u_15 : Ob) =>
            wp_X8_isNew u_15 (fun (r_16 : Int32) =>
            ((r_16 = 0) →
              LL_8 (v2_9 + 1) u_15) ∧ ((¬ r_16 = 0) →
              vp_in 160 166 ∧
              (((10 : Int32) < (u_15.2.1 14 (160 : Int32).toNatClampNeg)) →
                post 0 u_15) ∧ ((¬ (10 : Int32) < (u_15.2.1 14 (160 : Int32).toNatClampNeg)) →
                vp_in 161 166 ∧
                (((10 : Int32) < (u_15.2.1 14 (161 : Int32).toNatClampNeg)) →
                  post 0 u_15) ∧ ((¬ (10 : Int32) < (u_15.2.1 14 (161 : Int32).toNatClampNeg)) →
                  ((¬ (u_15.1 16) = 80) →
                    vp_in v1_5 80 ∧
                    wp_X8_find u_15 ((u_15.2.1 17 v1_5.toNatClampNeg) + 1) v2_9 v1_5 (fun (u_24 : Ob) =>
                    LL_8 (v2_9 + 1) u_24)) ∧ (((u_15.1 16) = 80) →
                    post 0 u_15))))))))) n 0 u_6)) n 0 u_3))
def wp_X8_isLeast (u : Ob) (x1 : Int32) (post : Int32 → Prop) : Prop :=
  ∃ n : Nat, lq2 (fun (LL_1 : Int32 → Int32 → Prop) (v3_2 : Int32) (v2_3 : Int32) =>
    (((u.1 16) ≤ v3_2) →
      zb v2_3 ∧ post v2_3) ∧ ((¬ (u.1 16) ≤ v3_2) →
      ((v2_3 = 0) →
        zb v2_3 ∧ post v2_3) ∧ ((¬ v2_3 = 0) →
        jn (fun (w_7 : Int32) =>
          LL_1 (v3_2 + 1) w_7) (fun (JJ_6 : Int32 → Prop) =>
          ((v3_2 = x1) →
            JJ_6 1) ∧ ((¬ v3_2 = x1) →
            wp_X8_isBelow u v3_2 x1 (fun (r_9 : Int32) =>
            ((¬ r_9 = 0) →
              JJ_6 0) ∧ ((r_9 = 0) →
              JJ_6 1))))))) n 0 1
def wp_X8_found (u : Ob) (post : Int32 → Ob → Prop) : Prop :=
  wp_X8_search u (fun (r_1 : Int32) (u_2 : Ob) =>
  ((r_1 = 0) →
    post (-3) u_2) ∧ ((¬ r_1 = 0) →
    post (u_2.1 16) u_2))
def wp_X8_about (u : Ob) (x1 : Int32) (x2 : Int32) (post : Int32 → Ob → Prop) : Prop :=
  ((x1 < 0) →
    post (-1) u) ∧ ((¬ x1 < 0) →
    wp_X8_in x2 0 6 (fun (r_2 : Int32) =>
    ((¬ r_2 = 0) →
      wp_X8_search u (fun (r_4 : Int32) (u_5 : Ob) =>
      ((¬ r_4 = 0) →
        ((x1 < (u_5.1 16)) →
          (x2 = 0 →
            vp_in x1 83 ∧
            post (u_5.2.1 13 x1.toNatClampNeg) u_5) ∧ (¬ x2 = 0 →
            (x2 = 1 →
              vp_in x1 80 ∧
              post (u_5.2.1 17 x1.toNatClampNeg) u_5) ∧ (¬ x2 = 1 →
              (x2 = 2 →
                vp_in (((2 * x1) + x2) - 2) 166 ∧
                post (u_5.2.1 14 (((2 * x1) + x2) - 2).toNatClampNeg) u_5) ∧ (¬ x2 = 2 →
                (x2 = 3 →
                  vp_in (((2 * x1) + x2) - 2) 166 ∧
                  post (u_5.2.1 14 (((2 * x1) + x2) - 2).toNatClampNeg) u_5) ∧ (¬ x2 = 3 →
                  (x2 = 4 →
                    vp_in x1 80 ∧
                    post (u_5.2.1 18 x1.toNatClampNeg) u_5) ∧ (¬ x2 = 4 →
                    (x2 = 5 →
                      vp_in x1 80 ∧
                      post (u_5.2.1 19 x1.toNatClampNeg) u_5) ∧ (¬ x2 = 5 →
                      wp_X8_isLeast u_5 x1 (fun (r_20 : Int32) =>
                      ((r_20 = 0) →
                        post 0 u_5) ∧ ((¬ r_20 = 0) →
                        post 1 u_5))))))))) ∧ ((¬ x1 < (u_5.1 16)) →
          post (-1) u_5)) ∧ ((r_4 = 0) →
        post (-3) u_5))) ∧ ((r_2 = 0) →
      post (-1) u)))
def wp_X8_letter (u : Ob) (x1 : Int32) (x2 : Int32) (x3 : Int32) (post : Int32 → Ob → Prop) : Prop :=
  ((x1 < 0) →
    post (-1) u) ∧ ((¬ x1 < 0) →
    ((x3 < 0) →
      post (-1) u) ∧ ((¬ x3 < 0) →
      wp_X8_in x2 0 1 (fun (r_3 : Int32) =>
      ((¬ r_3 = 0) →
        wp_X8_search u (fun (r_5 : Int32) (u_6 : Ob) =>
        ((¬ r_5 = 0) →
          (((u_6.1 16) ≤ x1) →
            post (-1) u_6) ∧ ((¬ (u_6.1 16) ≤ x1) →
            vp_in ((2 * x1) + x2) 166 ∧
            (((u_6.2.1 14 ((2 * x1) + x2).toNatClampNeg) ≤ x3) →
              post (-1) u_6) ∧ ((¬ (u_6.2.1 14 ((2 * x1) + x2).toNatClampNeg) ≤ x3) →
              wp_X8_spot x1 x2 x3 (fun (r_11 : Int32) =>
              vp_in r_11 1826 ∧
              post (u_6.2.1 15 r_11.toNatClampNeg) u_6)))) ∧ ((r_5 = 0) →
          post (-3) u_6))) ∧ ((r_3 = 0) →
        post (-1) u))))
def wp_X8_least (u : Ob) (post : Int32 → Ob → Prop) : Prop :=
  wp_X8_search u (fun (r_1 : Int32) (u_2 : Ob) =>
  ((¬ r_1 = 0) →
    ∃ n : Nat, lq2 (fun (LL_4 : Int32 → Int32 → Prop) (v2_5 : Int32) (v1_6 : Int32) =>
      (((u_2.1 16) ≤ v2_5) →
        post v1_6 u_2) ∧ ((¬ (u_2.1 16) ≤ v2_5) →
        wp_X8_isLeast u_2 v2_5 (fun (r_8 : Int32) =>
        jn (fun (w_10 : Int32) =>
          LL_4 (v2_5 + 1) (v1_6 + w_10)) (fun (JJ_9 : Int32 → Prop) =>
          ((r_8 = 0) →
            JJ_9 0) ∧ ((¬ r_8 = 0) →
            JJ_9 1))))) n 0 0) ∧ ((r_1 = 0) →
    post (-3) u_2))
def wp_X8_nearest (u : Ob) (post : Int32 → Prop) : Prop :=
  ∃ n : Nat, lq1 (fun (LL_1 : Int32 → Prop) (v1_2 : Int32) =>
    (((u.1 16) ≤ v1_2) →
      post (-1)) ∧ ((¬ (u.1 16) ≤ v1_2) →
      wp_X8_isBelow u v1_2 82 (fun (r_4 : Int32) =>
      ((r_4 = 0) →
        LL_1 (v1_2 + 1)) ∧ ((¬ r_4 = 0) →
        post v1_2)))) n 0
def wp_X8_far (u : Ob) (post : Int32 → Ob → Prop) : Prop :=
  wp_X8_search u (fun (r_1 : Int32) (u_2 : Ob) =>
  ((¬ r_1 = 0) →
    wp_X8_nearest u_2 (fun (r_4 : Int32) =>
    (((0 : Int32) ≤ r_4) →
      vp_in r_4 80 ∧
      post (u_2.2.1 17 r_4.toNatClampNeg) u_2) ∧ ((¬ (0 : Int32) ≤ r_4) →
      post (-4) u_2))) ∧ ((r_1 = 0) →
    post (-3) u_2))
def wp_X8_way (u : Ob) (x1 : Int32) (post : Int32 → Ob → Prop) : Prop :=
  (((0 : Int32) ≤ x1) →
    wp_X8_search u (fun (r_2 : Int32) (u_3 : Ob) =>
    ((¬ r_2 = 0) →
      wp_X8_nearest u_3 (fun (r_5 : Int32) =>
      (((0 : Int32) ≤ r_5) →
        vp_in r_5 80 ∧
        ((x1 < (u_3.2.1 17 r_5.toNatClampNeg)) →
          ∃ n : Nat, lq2 (fun (LL_9 : Int32 → Int32 → Prop) (v3_10 : Int32) (v2_11 : Int32) =>
            ((x1 ≤ v3_10) →
              vp_in v2_11 80 ∧
              post (u_3.2.1 18 v2_11.toNatClampNeg) u_3) ∧ ((¬ x1 ≤ v3_10) →
              vp_in v2_11 80 ∧
              LL_9 (v3_10 + 1) (u_3.2.1 19 v2_11.toNatClampNeg))) n 0 r_5) ∧ ((¬ x1 < (u_3.2.1 17 r_5.toNatClampNeg)) →
          post (-1) u_3)) ∧ ((¬ (0 : Int32) ≤ r_5) →
        post (-4) u_3))) ∧ ((r_2 = 0) →
      post (-3) u_3))) ∧ ((¬ (0 : Int32) ≤ x1) →
    post (-1) u)
def wp_X8_codeOf (u : Ob) (x1 : Int32) (x2 : Int32) (post : Int32 → Prop) : Prop :=
  vp_in ((2 * x1) + x2) 166 ∧
  ∃ n : Nat, lq2 (fun (LL_2 : Int32 → Int32 → Prop) (v4_3 : Int32) (v3_4 : Int32) =>
    ((v4_3 < 0) →
      post v3_4) ∧ ((¬ v4_3 < 0) →
      wp_X8_spot x1 x2 v4_3 (fun (r_6 : Int32) =>
      vp_in r_6 1826 ∧
      LL_2 (v4_3 + (-1)) (((4 * v3_4) + (u.2.1 15 r_6.toNatClampNeg)) + 1)))) n ((u.2.1 14 ((2 * x1) + x2).toNatClampNeg) - 1) 0
def wp_X8_decode (u : Ob) (x1 : Int32) (x2 : Int32) (x3 : Int32) (post : Ob → Prop) : Prop :=
  vp_in ((2 * x2) + x3) 166 ∧ ∀ u_2 : Ob, u_2 = fs_a u 14 (upd (u.2.1 14) ((2 * x2) + x3).toNatClampNeg 0) →
  ∃ n : Nat, lq2 (fun (LL_3 : Int32 → Ob → Prop) (v4_4 : Int32) (u_5 : Ob) =>
    ((v4_4 ≤ 0) →
      post u_5) ∧ ((¬ v4_4 ≤ 0) →
      vp_in ((2 * x2) + x3) 166 ∧
      wp_X8_spot x2 x3 (u_5.2.1 14 ((2 * x2) + x3).toNatClampNeg) (fun (r_8 : Int32) =>
      vp_in r_8 1826 ∧ ∀ u_10 : Ob, u_10 = fs_a u_5 15 (upd (u_5.2.1 15) r_8.toNatClampNeg ((j_rem v4_4 4) - 1)) →
      vp_in ((2 * x2) + x3) 166 ∧
      vp_in ((2 * x2) + x3) 166 ∧ ∀ u_13 : Ob, u_13 = fs_a u_10 14 (upd (u_10.2.1 14) ((2 * x2) + x3).toNatClampNeg ((u_10.2.1 14 ((2 * x2) + x3).toNatClampNeg) + 1)) →
      LL_3 (v4_4 / 4) u_13))) n x1 u_2
def wp_X8_wholeCode (u : Ob) (x1 : Int32) (post : Int32 → Prop) : Prop :=
  vp_in x1 83 ∧
  wp_X8_codeOf u x1 0 (fun (r_2 : Int32) =>
  wp_X8_codeOf u x1 1 (fun (r_3 : Int32) =>
  post (((4096 * (u.2.1 13 x1.toNatClampNeg)) + (64 * r_2)) + r_3)))
def wp_X8_goes (u : Ob) (x1 : Int32) (x2 : Int32) (post : Int32 → Ob → Prop) : Prop :=
  vp_in x1 20 ∧
  vp_in x1 20 ∧
  vp_in x1 20 ∧
  vp_in 80 83 ∧
  (((u.2.1 3 x1.toNatClampNeg) = (u.2.1 13 (80 : Int32).toNatClampNeg)) →
    vp_in x1 20 ∧
    jn (fun (u_8 : Ob) =>
      vp_in x1 20 ∧
      vp_in 80 83 ∧ ∀ u_11 : Ob, u_11 = fs_a u_8 13 (upd (u_8.2.1 13) (80 : Int32).toNatClampNeg (u_8.2.1 7 x1.toNatClampNeg)) →
      post 1 u_11) (fun (JJ_7 : Ob → Prop) =>
      ((¬ (u.2.1 4 x1.toNatClampNeg) = 2) →
        vp_in x1 20 ∧
        ((¬ (u.2.1 4 x1.toNatClampNeg) = 1) →
          JJ_7 u) ∧ (((u.2.1 4 x1.toNatClampNeg) = 1) →
          vp_in (160 + (u.2.1 5 x1.toNatClampNeg)) 166 ∧
          (((u.2.1 14 (160 + (u.2.1 5 x1.toNatClampNeg)).toNatClampNeg) < x2) →
            vp_in (u.2.1 5 x1.toNatClampNeg) 2 ∧
            jn (fun (w_19 : Int32) =>
              wp_X8_putIn u 80 (u.2.1 5 x1.toNatClampNeg) w_19 (u.2.1 6 x1.toNatClampNeg) (fun (u_20 : Ob) =>
              JJ_7 u_20)) (fun (JJ_18 : Int32 → Prop) =>
              (((u.2.1 1 (u.2.1 5 x1.toNatClampNeg).toNatClampNeg) = 0) →
                vp_in (160 + (u.2.1 5 x1.toNatClampNeg)) 166 ∧
                JJ_18 (u.2.1 14 (160 + (u.2.1 5 x1.toNatClampNeg)).toNatClampNeg)) ∧ ((¬ (u.2.1 1 (u.2.1 5 x1.toNatClampNeg).toNatClampNeg) = 0) →
                wp_X8_inOrder u 80 (u.2.1 5 x1.toNatClampNeg) (u.2.1 6 x1.toNatClampNeg) (fun (r_23 : Int32) =>
                JJ_18 r_23)))) ∧ ((¬ (u.2.1 14 (160 + (u.2.1 5 x1.toNatClampNeg)).toNatClampNeg) < x2) →
            post 0 u))) ∧ (((u.2.1 4 x1.toNatClampNeg) = 2) →
        wp_X8_firstOf u 80 (u.2.1 5 x1.toNatClampNeg) (u.2.1 6 x1.toNatClampNeg) (fun (r_24 : Int32) =>
        ((r_24 < 0) →
          post 0 u) ∧ ((¬ r_24 < 0) →
          jn (  wp_X8_takeOut u 80 (u.2.1 5 x1.toNatClampNeg) r_24 (fun (u_27 : Ob) =>
            JJ_7 u_27)) (fun (JJ_26 : Prop) =>
            ((r_24 ≤ 0) →
              JJ_26) ∧ ((¬ r_24 ≤ 0) →
              vp_in (u.2.1 5 x1.toNatClampNeg) 2 ∧
              ((¬ (u.2.1 1 (u.2.1 5 x1.toNatClampNeg).toNatClampNeg) = 0) →
                JJ_26) ∧ (((u.2.1 1 (u.2.1 5 x1.toNatClampNeg).toNatClampNeg) = 0) →
                post 0 u)))))))) ∧ ((¬ (u.2.1 3 x1.toNatClampNeg) = (u.2.1 13 (80 : Int32).toNatClampNeg)) →
    post 0 u)
def wp_X8_isLong (u : Ob) (x1 : Int32) (x2 : Int32) (post : Int32 → Prop) : Prop :=
  vp_in (2 * x1) 166 ∧
  ((x2 < (u.2.1 14 (2 * x1).toNatClampNeg)) →
    post 1) ∧ ((¬ x2 < (u.2.1 14 (2 * x1).toNatClampNeg)) →
    vp_in ((2 * x1) + 1) 166 ∧
    (((u.2.1 14 ((2 * x1) + 1).toNatClampNeg) ≤ x2) →
      post 0) ∧ ((¬ (u.2.1 14 ((2 * x1) + 1).toNatClampNeg) ≤ x2) →
      post 1))
def wp_X8_lay (u : Ob) (x1 : Int32) (post : Ob → Prop) : Prop :=
  vp_in 80 83 ∧ ∀ u_2 : Ob, u_2 = fs_a u 13 (upd (u.2.1 13) (80 : Int32).toNatClampNeg (x1 / 4096)) →
  wp_X8_decode u_2 (j_rem (x1 / 64) 64) 80 0 (fun (u_3 : Ob) =>
  wp_X8_decode u_3 (j_rem x1 64) 80 1 (fun (u_4 : Ob) =>
  post u_4))
def wp_X8_strict (u : Ob) (x1 : Int32) (post : Int32 → Ob → Prop) : Prop :=
  wp_X8_in x1 0 3 (fun (r_1 : Int32) =>
  ((¬ r_1 = 0) →
    wp_X8_isLong u 82 x1 (fun (r_3 : Int32) =>
    ((¬ r_3 = 0) →
      post (-2) u) ∧ ((r_3 = 0) →
      wp_X8_isLong u 81 x1 (fun (r_5 : Int32) =>
      ((r_5 = 0) →
        ∃ n : Nat, lq2 (fun (LL_7 : Int32 → Ob → Prop) (v2_8 : Int32) (u_9 : Ob) =>
          (((32768 : Int32) ≤ v2_8) →
            wp_X8_wholeCode u_9 82 (fun (r_11 : Int32) =>
            vp_in 0 32768 ∧ ∀ u_13 : Ob, u_13 = fs_a u_9 20 (upd (u_9.2.1 20) (0 : Int32).toNatClampNeg r_11) →
            vp_in 0 32768 ∧
            vp_in (u_13.2.1 20 (0 : Int32).toNatClampNeg) 32768 ∧ ∀ u_16 : Ob, u_16 = fs_a u_13 21 (upd (u_13.2.1 21) (u_13.2.1 20 (0 : Int32).toNatClampNeg).toNatClampNeg 0) →
            ∃ n : Nat, lq3 (fun (LL_17 : Int32 → Int32 → Ob → Prop) (v3_18 : Int32) (v2_19 : Int32) (u_20 : Ob) =>
              ((v2_19 ≤ v3_18) →
                post (-4) u_20) ∧ ((¬ v2_19 ≤ v3_18) →
                vp_in v3_18 32768 ∧
                wp_X8_lay u_20 (u_20.2.1 20 v3_18.toNatClampNeg) (fun (u_23 : Ob) =>
                wp_X8_isBelow u_23 81 80 (fun (r_24 : Int32) =>
                ((r_24 = 0) →
                  ∃ n : Nat, lq3 (fun (LL_26 : Int32 → Int32 → Ob → Prop) (v4_27 : Int32) (v2_28 : Int32) (u_29 : Ob) =>
                    (((u_29.1 2) ≤ v4_27) →
                      LL_17 (v3_18 + 1) v2_28 u_29) ∧ ((¬ (u_29.1 2) ≤ v4_27) →
                      vp_in v3_18 32768 ∧
                      wp_X8_lay u_29 (u_29.2.1 20 v3_18.toNatClampNeg) (fun (u_32 : Ob) =>
                      wp_X8_goes u_32 v4_27 x1 (fun (r_33 : Int32) (u_34 : Ob) =>
                      jn (fun (w_36 : Int32) =>
                        vp_in w_36 32768 ∧
                        (((0 : Int32) ≤ (u_34.2.1 21 w_36.toNatClampNeg)) →
                          LL_26 (v4_27 + 1) v2_28 u_34) ∧ ((¬ (0 : Int32) ≤ (u_34.2.1 21 w_36.toNatClampNeg)) →
                          vp_in v3_18 32768 ∧
                          vp_in (u_34.2.1 20 v3_18.toNatClampNeg) 32768 ∧
                          vp_in w_36 32768 ∧ ∀ u_42 : Ob, u_42 = fs_a u_34 21 (upd (u_34.2.1 21) w_36.toNatClampNeg ((u_34.2.1 21 (u_34.2.1 20 v3_18.toNatClampNeg).toNatClampNeg) + 1)) →
                          vp_in v2_28 32768 ∧ ∀ u_44 : Ob, u_44 = fs_a u_42 20 (upd (u_42.2.1 20) v2_28.toNatClampNeg w_36) →
                          LL_26 (v4_27 + 1) (v2_28 + 1) u_44)) (fun (JJ_35 : Int32 → Prop) =>
                        ((r_33 = 0) →
                          vp_in v3_18 32768 ∧
                          JJ_35 (u_34.2.1 20 v3_18.toNatClampNeg)) ∧ ((¬ r_33 = 0) →
                          wp_X8_wholeCode u_34 80 (fun (r_47 : Int32) =>
                          JJ_35 r_47))))))) n 0 v2_19 u_23) ∧ ((¬ r_24 = 0) →
                  vp_in v3_18 32768 ∧
                  vp_in (u_23.2.1 20 v3_18.toNatClampNeg) 32768 ∧
                  post (u_23.2.1 21 (u_23.2.1 20 v3_18.toNatClampNeg).toNatClampNeg) u_23))))) n 0 1 u_16)) ∧ ((¬ (32768 : Int32) ≤ v2_8) →
            vp_in v2_8 32768 ∧ ∀ u_53 : Ob, u_53 = fs_a u_9 21 (upd (u_9.2.1 21) v2_8.toNatClampNeg (-1)) →
            LL_7 (v2_8 + 1) u_53)) n 0 u) ∧ ((¬ r_5 = 0) →
        post (-2) u))))) ∧ ((r_1 = 0) →
    post (-1) u))
def wp_X8_isSheet (x1 : Int32) (post : Int32 → Prop) : Prop :=
  wp_X8_in x1 0 1 (fun (r_1 : Int32) =>
  zb r_1 ∧ post r_1)
def wp_X8_sheet (u : Ob) (x1 : Int32) (x2 : Int32) (x3 : Int32) (post : Int32 → Ob → Prop) : Prop :=
  wp_X8_isSheet x1 (fun (r_1 : Int32) =>
  ((r_1 = 0) →
    post (-1) u) ∧ ((¬ r_1 = 0) →
    wp_X8_in x2 0 1 (fun (r_3 : Int32) =>
    ((r_3 = 0) →
      post (-1) u) ∧ ((¬ r_3 = 0) →
      ((x3 ≤ 60) →
        (((0 : Int32) ≤ x3) →
          vp_in x1 2 ∧ ∀ u_8 : Ob, u_8 = fs_a u 22 (upd (u.2.1 22) x1.toNatClampNeg x2) →
          vp_in x1 2 ∧ ∀ u_10 : Ob, u_10 = fs_a u_8 23 (upd (u_8.2.1 23) x1.toNatClampNeg x3) →
          ∃ n : Nat, lq2 (fun (LL_11 : Int32 → Ob → Prop) (v4_12 : Int32) (u_13 : Ob) =>
            (((60 : Int32) ≤ v4_12) →
              post x3 u_13) ∧ ((¬ (60 : Int32) ≤ v4_12) →
              vp_in ((60 * x1) + v4_12) 120 ∧ ∀ u_16 : Ob, u_16 = fs_a u_13 24 (upd (u_13.2.1 24) ((60 * x1) + v4_12).toNatClampNeg 0) →
              LL_11 (v4_12 + 1) u_16)) n 0 u_10) ∧ ((¬ (0 : Int32) ≤ x3) →
          post (-14) u)) ∧ ((¬ x3 ≤ 60) →
        post (-1) u)))))
def wp_X8_drop (u : Ob) (x1 : Int32) (post : Int32 → Ob → Prop) : Prop :=
  wp_X8_isSheet x1 (fun (r_1 : Int32) =>
  ((¬ r_1 = 0) →
    vp_in x1 2 ∧
    (((0 : Int32) ≤ (u.2.1 22 x1.toNatClampNeg)) →
      vp_in x1 2 ∧ ∀ u_6 : Ob, u_6 = fs_a u 22 (upd (u.2.1 22) x1.toNatClampNeg (-1)) →
      vp_in x1 2 ∧
      post (u_6.2.1 23 x1.toNatClampNeg) u_6) ∧ ((¬ (0 : Int32) ≤ (u.2.1 22 x1.toNatClampNeg)) →
      post (-11) u)) ∧ ((r_1 = 0) →
    post (-1) u))
def wp_X8_item (u : Ob) (x1 : Int32) (x2 : Int32) (x3 : Int32) (x4 : Int32) (post : Int32 → Ob → Prop) : Prop :=
  wp_X8_isSheet x1 (fun (r_1 : Int32) =>
  ((r_1 = 0) →
    post (-1) u) ∧ ((¬ r_1 = 0) →
    wp_X8_in x2 0 1 (fun (r_3 : Int32) =>
    ((¬ r_3 = 0) →
      vp_in x1 2 ∧
      (((0 : Int32) ≤ (u.2.1 22 x1.toNatClampNeg)) →
        vp_in x1 2 ∧
        (((u.2.1 22 x1.toNatClampNeg) = x2) →
          vp_in x1 2 ∧
          wp_X8_in x3 0 ((u.2.1 23 x1.toNatClampNeg) - 1) (fun (r_10 : Int32) =>
          ((¬ r_10 = 0) →
            jn (fun (w_13 : Int32) =>
              vp_in ((60 * x1) + x3) 120 ∧ ∀ u_15 : Ob, u_15 = fs_a u 24 (upd (u.2.1 24) ((60 * x1) + x3).toNatClampNeg w_13) →
              post 1 u_15) (fun (JJ_12 : Int32 → Prop) =>
              ((¬ x2 = 0) →
                JJ_12 x4) ∧ ((x2 = 0) →
                JJ_12 (Int8.toInt32 (Int32.toInt8 x4))))) ∧ ((r_10 = 0) →
            post (-13) u))) ∧ ((¬ (u.2.1 22 x1.toNatClampNeg) = x2) →
          post (-12) u)) ∧ ((¬ (0 : Int32) ≤ (u.2.1 22 x1.toNatClampNeg)) →
        post (-11) u)) ∧ ((r_3 = 0) →
      post (-1) u))))
def wp_X8_arcs (u : Ob) (x1 : Int32) (x2 : Int32) (x3 : Int32) (x4 : Int32) (post : Int32 → Ob → Prop) : Prop :=
  wp_X8_isSheet x1 (fun (r_1 : Int32) =>
  ((r_1 = 0) →
    post (-1) u) ∧ ((¬ r_1 = 0) →
    wp_X8_in x2 0 1 (fun (r_3 : Int32) =>
    ((r_3 = 0) →
      post (-1) u) ∧ ((¬ r_3 = 0) →
      wp_X8_in x4 0 12 (fun (r_5 : Int32) =>
      ((¬ r_5 = 0) →
        vp_in x1 2 ∧
        (((0 : Int32) ≤ (u.2.1 22 x1.toNatClampNeg)) →
          vp_in x1 2 ∧
          (((u.2.1 22 x1.toNatClampNeg) = x2) →
            ((x3 < 0) →
              post (-13) u) ∧ ((¬ x3 < 0) →
              vp_in x1 2 ∧
              (((lg_cmp ((Int32.toInt64 x3) + (Int32.toInt64 (5 * x4))) (Int32.toInt64 (u.2.1 23 x1.toNatClampNeg))) ≤ 0) →
                ∃ n : Nat, lq1 (fun (LL_14 : Int32 → Prop) (v6_15 : Int32) =>
                  ((x4 ≤ v6_15) →
                    ((((u.1 2) + x4) ≤ 20) →
                      ∃ n : Nat, lq2 (fun (LL_18 : Int32 → Ob → Prop) (v6_19 : Int32) (u_20 : Ob) =>
                        ((x4 ≤ v6_19) →
                          wp_X8_empty u_20 82 0 (fun (u_22 : Ob) =>
                          post (u_22.1 2) u_22)) ∧ ((¬ x4 ≤ v6_19) →
                          vp_in (((60 * x1) + x3) + (5 * v6_19)) 120 ∧
                          vp_in ((((60 * x1) + x3) + (5 * v6_19)) + 1) 120 ∧
                          vp_in ((((60 * x1) + x3) + (5 * v6_19)) + 2) 120 ∧
                          vp_in ((((60 * x1) + x3) + (5 * v6_19)) + 3) 120 ∧
                          vp_in ((((60 * x1) + x3) + (5 * v6_19)) + 4) 120 ∧
                          wp_X8_put u_20 (u_20.2.1 24 (((60 * x1) + x3) + (5 * v6_19)).toNatClampNeg) (u_20.2.1 24 ((((60 * x1) + x3) + (5 * v6_19)) + 1).toNatClampNeg) (u_20.2.1 24 ((((60 * x1) + x3) + (5 * v6_19)) + 2).toNatClampNeg) (u_20.2.1 24 ((((60 * x1) + x3) + (5 * v6_19)) + 3).toNatClampNeg) (u_20.2.1 24 ((((60 * x1) + x3) + (5 * v6_19)) + 4).toNatClampNeg) (fun (u_28 : Ob) =>
                          LL_18 (v6_19 + 1) u_28))) n 0 u) ∧ ((¬ ((u.1 2) + x4) ≤ 20) →
                      post (-3) u)) ∧ ((¬ x4 ≤ v6_15) →
                    vp_in (((60 * x1) + x3) + (5 * v6_15)) 120 ∧
                    vp_in ((((60 * x1) + x3) + (5 * v6_15)) + 1) 120 ∧
                    vp_in ((((60 * x1) + x3) + (5 * v6_15)) + 2) 120 ∧
                    vp_in ((((60 * x1) + x3) + (5 * v6_15)) + 3) 120 ∧
                    vp_in ((((60 * x1) + x3) + (5 * v6_15)) + 4) 120 ∧
                    wp_X8_isGood u (u.2.1 24 (((60 * x1) + x3) + (5 * v6_15)).toNatClampNeg) (u.2.1 24 ((((60 * x1) + x3) + (5 * v6_15)) + 1).toNatClampNeg) (u.2.1 24 ((((60 * x1) + x3) + (5 * v6_15)) + 2).toNatClampNeg) (u.2.1 24 ((((60 * x1) + x3) + (5 * v6_15)) + 3).toNatClampNeg) (u.2.1 24 ((((60 * x1) + x3) + (5 * v6_15)) + 4).toNatClampNeg) (fun (r_35 : Int32) =>
                    ((¬ r_35 = 0) →
                      LL_14 (v6_15 + 1)) ∧ ((r_35 = 0) →
                      post (-2) u)))) n 0) ∧ ((¬ (lg_cmp ((Int32.toInt64 x3) + (Int32.toInt64 (5 * x4))) (Int32.toInt64 (u.2.1 23 x1.toNatClampNeg))) ≤ 0) →
                post (-13) u))) ∧ ((¬ (u.2.1 22 x1.toNatClampNeg) = x2) →
            post (-12) u)) ∧ ((¬ (0 : Int32) ≤ (u.2.1 22 x1.toNatClampNeg)) →
          post (-11) u)) ∧ ((r_5 = 0) →
        post (-1) u))))))
