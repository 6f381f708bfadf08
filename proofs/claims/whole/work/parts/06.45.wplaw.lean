def wp_law (LN : Nat) (xs : Nat → Int32) (uf : Ob) (um : Ob) (ut : Ob) (uh : Ob) (ug : Ob) (ur : Ob) (uw : Ob) (ux : Ob) (uy : Ob) (u8 : Ob) : Prop :=
  ∃ n : Nat, lq11 (fun (LL_1 : Int32 → Ob → Ob → Ob → Ob → Ob → Ob → Ob → Ob → Ob → Ob → Prop) (v3_2 : Int32) (uf_3 : Ob) (um_4 : Ob) (ut_5 : Ob) (uh_6 : Ob) (ug_7 : Ob) (ur_8 : Ob) (uw_9 : Ob) (ux_10 : Ob) (uy_11 : Ob) (u8_12 : Ob) =>
    ((((Int32.ofNat LN) - 6) < v3_2) →
      True) ∧ ((¬ ((Int32.ofNat LN) - 6) < v3_2) →
      vp_in v3_2 LN ∧
      (((xs v3_2.toNatClampNeg) &&& 31) = 0 →
        vp_in (v3_2 + 1) LN ∧
        wp_X7_states uf_3 um_4 uh_6 ug_7 (xs (v3_2 + 1).toNatClampNeg) (fun (r_17 : Int32) (uf_18 : Ob) (um_19 : Ob) (uh_20 : Ob) (ug_21 : Ob) =>
        vp_in (v3_2 + 1) LN ∧
        wp_X8_states u8_12 (xs (v3_2 + 1).toNatClampNeg) (fun (r_23 : Int32) (u8_24 : Ob) =>
        ((r_17 = r_23) →
          LL_1 (v3_2 + 6) uf_18 um_19 ut_5 uh_20 ug_21 ur_8 uw_9 ux_10 uy_11 u8_24) ∧ ((¬ r_17 = r_23) →
          False)))) ∧ (¬ ((xs v3_2.toNatClampNeg) &&& 31) = 0 →
        (((xs v3_2.toNatClampNeg) &&& 31) = 1 →
          vp_in (v3_2 + 1) LN ∧
          vp_in (v3_2 + 2) LN ∧
          jn (fun (w_30 : Int32) =>
            wp_X7_bag uf_3 um_4 uh_6 ug_7 (xs (v3_2 + 1).toNatClampNeg) w_30 (fun (r_31 : Int32) (uf_32 : Ob) (um_33 : Ob) (uh_34 : Ob) (ug_35 : Ob) =>
            vp_in (v3_2 + 1) LN ∧
            vp_in (v3_2 + 2) LN ∧
            jn (fun (w_39 : Int32) =>
              wp_X8_bag u8_12 (xs (v3_2 + 1).toNatClampNeg) w_39 (fun (r_40 : Int32) (u8_41 : Ob) =>
              ((r_31 = r_40) →
                LL_1 (v3_2 + 6) uf_32 um_33 ut_5 uh_34 ug_35 ur_8 uw_9 ux_10 uy_11 u8_41) ∧ ((¬ r_31 = r_40) →
                False))) (fun (JJ_38 : Int32 → Prop) =>
              (((xs (v3_2 + 2).toNatClampNeg) = 0) →
                JJ_38 0) ∧ ((¬ (xs (v3_2 + 2).toNatClampNeg) = 0) →
                JJ_38 1)))) (fun (JJ_29 : Int32 → Prop) =>
            (((xs (v3_2 + 2).toNatClampNeg) = 0) →
              JJ_29 0) ∧ ((¬ (xs (v3_2 + 2).toNatClampNeg) = 0) →
              JJ_29 1))) ∧ (¬ ((xs v3_2.toNatClampNeg) &&& 31) = 1 →
          (((xs v3_2.toNatClampNeg) &&& 31) = 2 →
            vp_in (v3_2 + 1) LN ∧
            vp_in (v3_2 + 2) LN ∧
            vp_in (v3_2 + 3) LN ∧
            vp_in (v3_2 + 4) LN ∧
            vp_in (v3_2 + 5) LN ∧
            wp_X7_arc uf_3 um_4 uh_6 (xs (v3_2 + 1).toNatClampNeg) (xs (v3_2 + 2).toNatClampNeg) (xs (v3_2 + 3).toNatClampNeg) (xs (v3_2 + 4).toNatClampNeg) (xs (v3_2 + 5).toNatClampNeg) (fun (r_51 : Int32) (uf_52 : Ob) (um_53 : Ob) (uh_54 : Ob) =>
            vp_in (v3_2 + 1) LN ∧
            vp_in (v3_2 + 2) LN ∧
            vp_in (v3_2 + 3) LN ∧
            vp_in (v3_2 + 4) LN ∧
            vp_in (v3_2 + 5) LN ∧
            wp_X8_arc u8_12 (xs (v3_2 + 1).toNatClampNeg) (xs (v3_2 + 2).toNatClampNeg) (xs (v3_2 + 3).toNatClampNeg) (xs (v3_2 + 4).toNatClampNeg) (xs (v3_2 + 5).toNatClampNeg) (fun (r_60 : Int32) (u8_61 : Ob) =>
            ((r_51 = r_60) →
              LL_1 (v3_2 + 6) uf_52 um_53 ut_5 uh_54 ug_7 ur_8 uw_9 ux_10 uy_11 u8_61) ∧ ((¬ r_51 = r_60) →
              False)))) ∧ (¬ ((xs v3_2.toNatClampNeg) &&& 31) = 2 →
            (((xs v3_2.toNatClampNeg) &&& 31) = 3 →
              wp_X7_unarc uf_3 um_4 uh_6 (fun (r_64 : Int32) (uf_65 : Ob) (um_66 : Ob) (uh_67 : Ob) =>
              wp_X8_unarc u8_12 (fun (r_68 : Int32) (u8_69 : Ob) =>
              ((r_64 = r_68) →
                LL_1 (v3_2 + 6) uf_65 um_66 ut_5 uh_67 ug_7 ur_8 uw_9 ux_10 uy_11 u8_69) ∧ ((¬ r_64 = r_68) →
                False)))) ∧ (¬ ((xs v3_2.toNatClampNeg) &&& 31) = 3 →
              (((xs v3_2.toNatClampNeg) &&& 31) = 4 →
                vp_in (v3_2 + 1) LN ∧
                vp_in (v3_2 + 2) LN ∧
                wp_X7_told uf_3 um_4 (xs (v3_2 + 1).toNatClampNeg) (xs (v3_2 + 2).toNatClampNeg) (fun (r_74 : Int32) =>
                vp_in (v3_2 + 1) LN ∧
                vp_in (v3_2 + 2) LN ∧
                wp_X8_told u8_12 (xs (v3_2 + 1).toNatClampNeg) (xs (v3_2 + 2).toNatClampNeg) (fun (r_77 : Int32) =>
                ((r_74 = r_77) →
                  LL_1 (v3_2 + 6) uf_3 um_4 ut_5 uh_6 ug_7 ur_8 uw_9 ux_10 uy_11 u8_12) ∧ ((¬ r_74 = r_77) →
                  False)))) ∧ (¬ ((xs v3_2.toNatClampNeg) &&& 31) = 4 →
                (((xs v3_2.toNatClampNeg) &&& 31) = 5 →
                  vp_in (v3_2 + 1) LN ∧
                  vp_in (v3_2 + 2) LN ∧
                  vp_in (v3_2 + 3) LN ∧
                  wp_X7_type uf_3 ut_5 ((j_lshl (Int32.toInt64 (xs (v3_2 + 1).toNatClampNeg)) 32) ||| ((Int32.toInt64 (xs (v3_2 + 2).toNatClampNeg)) &&& 4294967295)) (xs (v3_2 + 3).toNatClampNeg) (fun (r_83 : Int32) (ut_84 : Ob) =>
                  vp_in (v3_2 + 1) LN ∧
                  vp_in (v3_2 + 2) LN ∧
                  vp_in (v3_2 + 3) LN ∧
                  wp_X8_type u8_12 ((j_lshl (Int32.toInt64 (xs (v3_2 + 1).toNatClampNeg)) 32) ||| ((Int32.toInt64 (xs (v3_2 + 2).toNatClampNeg)) &&& 4294967295)) (xs (v3_2 + 3).toNatClampNeg) (fun (r_88 : Int32) (u8_89 : Ob) =>
                  ((r_83 = r_88) →
                    LL_1 (v3_2 + 6) uf_3 um_4 ut_84 uh_6 ug_7 ur_8 uw_9 ux_10 uy_11 u8_89) ∧ ((¬ r_83 = r_88) →
                    False)))) ∧ (¬ ((xs v3_2.toNatClampNeg) &&& 31) = 5 →
                  (((xs v3_2.toNatClampNeg) &&& 31) = 6 →
                    wp_X7_read uf_3 um_4 ut_5 uh_6 (fun (r_92 : Int32) (uf_93 : Ob) (um_94 : Ob) (ut_95 : Ob) (uh_96 : Ob) =>
                    wp_X8_read u8_12 (fun (r_97 : Int32) (u8_98 : Ob) =>
                    ((r_92 = r_97) →
                      LL_1 (v3_2 + 6) uf_93 um_94 ut_95 uh_96 ug_7 ur_8 uw_9 ux_10 uy_11 u8_98) ∧ ((¬ r_92 = r_97) →
                      False)))) ∧ (¬ ((xs v3_2.toNatClampNeg) &&& 31) = 6 →
                    (((xs v3_2.toNatClampNeg) &&& 31) = 7 →
                      vp_in (v3_2 + 1) LN ∧
                      vp_in (v3_2 + 2) LN ∧
                      vp_in (v3_2 + 3) LN ∧
                      vp_in (v3_2 + 4) LN ∧
                      wp_X7_arcs uf_3 um_4 uh_6 ux_10 uy_11 (xs (v3_2 + 1).toNatClampNeg) (xs (v3_2 + 2).toNatClampNeg) (xs (v3_2 + 3).toNatClampNeg) (xs (v3_2 + 4).toNatClampNeg) (fun (r_105 : Int32) (uf_106 : Ob) (um_107 : Ob) (uh_108 : Ob) =>
                      vp_in (v3_2 + 1) LN ∧
                      vp_in (v3_2 + 2) LN ∧
                      vp_in (v3_2 + 3) LN ∧
                      vp_in (v3_2 + 4) LN ∧
                      wp_X8_arcs u8_12 (xs (v3_2 + 1).toNatClampNeg) (xs (v3_2 + 2).toNatClampNeg) (xs (v3_2 + 3).toNatClampNeg) (xs (v3_2 + 4).toNatClampNeg) (fun (r_113 : Int32) (u8_114 : Ob) =>
                      ((r_105 = r_113) →
                        LL_1 (v3_2 + 6) uf_106 um_107 ut_5 uh_108 ug_7 ur_8 uw_9 ux_10 uy_11 u8_114) ∧ ((¬ r_105 = r_113) →
                        False)))) ∧ (¬ ((xs v3_2.toNatClampNeg) &&& 31) = 7 →
                      (((xs v3_2.toNatClampNeg) &&& 31) = 8 →
                        vp_in (v3_2 + 1) LN ∧
                        wp_X7_go uf_3 um_4 uh_6 (xs (v3_2 + 1).toNatClampNeg) (fun (r_118 : Int32) (uh_119 : Ob) =>
                        vp_in (v3_2 + 1) LN ∧
                        wp_X8_go u8_12 (xs (v3_2 + 1).toNatClampNeg) (fun (r_121 : Int32) (u8_122 : Ob) =>
                        ((r_118 = r_121) →
                          LL_1 (v3_2 + 6) uf_3 um_4 ut_5 uh_119 ug_7 ur_8 uw_9 ux_10 uy_11 u8_122) ∧ ((¬ r_118 = r_121) →
                          False)))) ∧ (¬ ((xs v3_2.toNatClampNeg) &&& 31) = 8 →
                        (((xs v3_2.toNatClampNeg) &&& 31) = 9 →
                          vp_in (v3_2 + 1) LN ∧
                          vp_in (v3_2 + 2) LN ∧
                          wp_X7_lose uf_3 uh_6 (xs (v3_2 + 1).toNatClampNeg) (xs (v3_2 + 2).toNatClampNeg) (fun (r_127 : Int32) (uh_128 : Ob) =>
                          vp_in (v3_2 + 1) LN ∧
                          vp_in (v3_2 + 2) LN ∧
                          wp_X8_lose u8_12 (xs (v3_2 + 1).toNatClampNeg) (xs (v3_2 + 2).toNatClampNeg) (fun (r_131 : Int32) (u8_132 : Ob) =>
                          ((r_127 = r_131) →
                            LL_1 (v3_2 + 6) uf_3 um_4 ut_5 uh_128 ug_7 ur_8 uw_9 ux_10 uy_11 u8_132) ∧ ((¬ r_127 = r_131) →
                            False)))) ∧ (¬ ((xs v3_2.toNatClampNeg) &&& 31) = 9 →
                          (((xs v3_2.toNatClampNeg) &&& 31) = 10 →
                            vp_in (v3_2 + 1) LN ∧
                            vp_in (v3_2 + 2) LN ∧
                            wp_X7_now uf_3 uh_6 (xs (v3_2 + 1).toNatClampNeg) (xs (v3_2 + 2).toNatClampNeg) (fun (r_137 : Int32) =>
                            vp_in (v3_2 + 1) LN ∧
                            vp_in (v3_2 + 2) LN ∧
                            wp_X8_now u8_12 (xs (v3_2 + 1).toNatClampNeg) (xs (v3_2 + 2).toNatClampNeg) (fun (r_140 : Int32) =>
                            ((r_137 = r_140) →
                              LL_1 (v3_2 + 6) uf_3 um_4 ut_5 uh_6 ug_7 ur_8 uw_9 ux_10 uy_11 u8_12) ∧ ((¬ r_137 = r_140) →
                              False)))) ∧ (¬ ((xs v3_2.toNatClampNeg) &&& 31) = 10 →
                            (((xs v3_2.toNatClampNeg) &&& 31) = 11 →
                              wp_X7_reset uf_3 uh_6 (fun (r_143 : Int32) (uh_144 : Ob) =>
                              wp_X8_reset u8_12 (fun (r_145 : Int32) (u8_146 : Ob) =>
                              ((r_143 = r_145) →
                                LL_1 (v3_2 + 6) uf_3 um_4 ut_5 uh_144 ug_7 ur_8 uw_9 ux_10 uy_11 u8_146) ∧ ((¬ r_143 = r_145) →
                                False)))) ∧ (¬ ((xs v3_2.toNatClampNeg) &&& 31) = 11 →
                              (((xs v3_2.toNatClampNeg) &&& 31) = 12 →
                                vp_in (v3_2 + 1) LN ∧
                                wp_X7_aim uf_3 um_4 ug_7 (xs (v3_2 + 1).toNatClampNeg) (fun (r_150 : Int32) (uf_151 : Ob) (ug_152 : Ob) =>
                                vp_in (v3_2 + 1) LN ∧
                                wp_X8_aim u8_12 (xs (v3_2 + 1).toNatClampNeg) (fun (r_154 : Int32) (u8_155 : Ob) =>
                                ((r_150 = r_154) →
                                  LL_1 (v3_2 + 6) uf_151 um_4 ut_5 uh_6 ug_152 ur_8 uw_9 ux_10 uy_11 u8_155) ∧ ((¬ r_150 = r_154) →
                                  False)))) ∧ (¬ ((xs v3_2.toNatClampNeg) &&& 31) = 12 →
                                (((xs v3_2.toNatClampNeg) &&& 31) = 13 →
                                  vp_in (v3_2 + 1) LN ∧
                                  vp_in (v3_2 + 2) LN ∧
                                  wp_X7_want uf_3 um_4 ug_7 (xs (v3_2 + 1).toNatClampNeg) (xs (v3_2 + 2).toNatClampNeg) (fun (r_160 : Int32) (uf_161 : Ob) (ug_162 : Ob) =>
                                  vp_in (v3_2 + 1) LN ∧
                                  vp_in (v3_2 + 2) LN ∧
                                  wp_X8_want u8_12 (xs (v3_2 + 1).toNatClampNeg) (xs (v3_2 + 2).toNatClampNeg) (fun (r_165 : Int32) (u8_166 : Ob) =>
                                  ((r_160 = r_165) →
                                    LL_1 (v3_2 + 6) uf_161 um_4 ut_5 uh_6 ug_162 ur_8 uw_9 ux_10 uy_11 u8_166) ∧ ((¬ r_160 = r_165) →
                                    False)))) ∧ (¬ ((xs v3_2.toNatClampNeg) &&& 31) = 13 →
                                  (((xs v3_2.toNatClampNeg) &&& 31) = 14 →
                                    wp_X7_found uf_3 um_4 ug_7 ur_8 (fun (r_169 : Int32) (uf_170 : Ob) (ur_171 : Ob) =>
                                    wp_X8_found u8_12 (fun (r_172 : Int32) (u8_173 : Ob) =>
                                    ((r_169 = r_172) →
                                      LL_1 (v3_2 + 6) uf_170 um_4 ut_5 uh_6 ug_7 ur_171 uw_9 ux_10 uy_11 u8_173) ∧ ((¬ r_169 = r_172) →
                                      False)))) ∧ (¬ ((xs v3_2.toNatClampNeg) &&& 31) = 14 →
                                    (((xs v3_2.toNatClampNeg) &&& 31) = 15 →
                                      vp_in (v3_2 + 1) LN ∧
                                      vp_in (v3_2 + 2) LN ∧
                                      wp_X7_about uf_3 um_4 ug_7 ur_8 (xs (v3_2 + 1).toNatClampNeg) (xs (v3_2 + 2).toNatClampNeg) (fun (r_178 : Int32) (uf_179 : Ob) (ur_180 : Ob) =>
                                      vp_in (v3_2 + 1) LN ∧
                                      vp_in (v3_2 + 2) LN ∧
                                      wp_X8_about u8_12 (xs (v3_2 + 1).toNatClampNeg) (xs (v3_2 + 2).toNatClampNeg) (fun (r_183 : Int32) (u8_184 : Ob) =>
                                      ((r_178 = r_183) →
                                        LL_1 (v3_2 + 6) uf_179 um_4 ut_5 uh_6 ug_7 ur_180 uw_9 ux_10 uy_11 u8_184) ∧ ((¬ r_178 = r_183) →
                                        False)))) ∧ (¬ ((xs v3_2.toNatClampNeg) &&& 31) = 15 →
                                      (((xs v3_2.toNatClampNeg) &&& 31) = 16 →
                                        vp_in (v3_2 + 1) LN ∧
                                        vp_in (v3_2 + 2) LN ∧
                                        vp_in (v3_2 + 3) LN ∧
                                        wp_X7_letter uf_3 um_4 ug_7 ur_8 (xs (v3_2 + 1).toNatClampNeg) (xs (v3_2 + 2).toNatClampNeg) (xs (v3_2 + 3).toNatClampNeg) (fun (r_190 : Int32) (uf_191 : Ob) (ur_192 : Ob) =>
                                        vp_in (v3_2 + 1) LN ∧
                                        vp_in (v3_2 + 2) LN ∧
                                        vp_in (v3_2 + 3) LN ∧
                                        wp_X8_letter u8_12 (xs (v3_2 + 1).toNatClampNeg) (xs (v3_2 + 2).toNatClampNeg) (xs (v3_2 + 3).toNatClampNeg) (fun (r_196 : Int32) (u8_197 : Ob) =>
                                        ((r_190 = r_196) →
                                          LL_1 (v3_2 + 6) uf_191 um_4 ut_5 uh_6 ug_7 ur_192 uw_9 ux_10 uy_11 u8_197) ∧ ((¬ r_190 = r_196) →
                                          False)))) ∧ (¬ ((xs v3_2.toNatClampNeg) &&& 31) = 16 →
                                        (((xs v3_2.toNatClampNeg) &&& 31) = 17 →
                                          wp_X7_least uf_3 um_4 ug_7 ur_8 (fun (r_200 : Int32) (uf_201 : Ob) (ur_202 : Ob) =>
                                          wp_X8_least u8_12 (fun (r_203 : Int32) (u8_204 : Ob) =>
                                          ((r_200 = r_203) →
                                            LL_1 (v3_2 + 6) uf_201 um_4 ut_5 uh_6 ug_7 ur_202 uw_9 ux_10 uy_11 u8_204) ∧ ((¬ r_200 = r_203) →
                                            False)))) ∧ (¬ ((xs v3_2.toNatClampNeg) &&& 31) = 17 →
                                          (((xs v3_2.toNatClampNeg) &&& 31) = 18 →
                                            wp_X7_far uf_3 um_4 uh_6 ug_7 ur_8 (fun (r_207 : Int32) (uf_208 : Ob) (ur_209 : Ob) =>
                                            wp_X8_far u8_12 (fun (r_210 : Int32) (u8_211 : Ob) =>
                                            ((r_207 = r_210) →
                                              LL_1 (v3_2 + 6) uf_208 um_4 ut_5 uh_6 ug_7 ur_209 uw_9 ux_10 uy_11 u8_211) ∧ ((¬ r_207 = r_210) →
                                              False)))) ∧ (¬ ((xs v3_2.toNatClampNeg) &&& 31) = 18 →
                                            (((xs v3_2.toNatClampNeg) &&& 31) = 19 →
                                              vp_in (v3_2 + 1) LN ∧
                                              wp_X7_way uf_3 um_4 uh_6 ug_7 ur_8 (xs (v3_2 + 1).toNatClampNeg) (fun (r_215 : Int32) (uf_216 : Ob) (ur_217 : Ob) =>
                                              vp_in (v3_2 + 1) LN ∧
                                              wp_X8_way u8_12 (xs (v3_2 + 1).toNatClampNeg) (fun (r_219 : Int32) (u8_220 : Ob) =>
                                              ((r_215 = r_219) →
                                                LL_1 (v3_2 + 6) uf_216 um_4 ut_5 uh_6 ug_7 ur_217 uw_9 ux_10 uy_11 u8_220) ∧ ((¬ r_215 = r_219) →
                                                False)))) ∧ (¬ ((xs v3_2.toNatClampNeg) &&& 31) = 19 →
                                              (((xs v3_2.toNatClampNeg) &&& 31) = 20 →
                                                vp_in (v3_2 + 1) LN ∧
                                                wp_X7_strict uf_3 um_4 uh_6 ug_7 uw_9 (xs (v3_2 + 1).toNatClampNeg) (fun (r_224 : Int32) (uw_225 : Ob) =>
                                                vp_in (v3_2 + 1) LN ∧
                                                wp_X8_strict u8_12 (xs (v3_2 + 1).toNatClampNeg) (fun (r_227 : Int32) (u8_228 : Ob) =>
                                                ((r_224 = r_227) →
                                                  LL_1 (v3_2 + 6) uf_3 um_4 ut_5 uh_6 ug_7 ur_8 uw_225 ux_10 uy_11 u8_228) ∧ ((¬ r_224 = r_227) →
                                                  False)))) ∧ (¬ ((xs v3_2.toNatClampNeg) &&& 31) = 20 →
                                                (((xs v3_2.toNatClampNeg) &&& 31) = 21 →
                                                  vp_in (v3_2 + 1) LN ∧
                                                  vp_in (v3_2 + 2) LN ∧
                                                  vp_in (v3_2 + 3) LN ∧
                                                  wp_X7_sheet uf_3 ux_10 uy_11 (xs (v3_2 + 1).toNatClampNeg) (xs (v3_2 + 2).toNatClampNeg) (xs (v3_2 + 3).toNatClampNeg) (fun (r_234 : Int32) (ux_235 : Ob) (uy_236 : Ob) =>
                                                  vp_in (v3_2 + 1) LN ∧
                                                  vp_in (v3_2 + 2) LN ∧
                                                  vp_in (v3_2 + 3) LN ∧
                                                  wp_X8_sheet u8_12 (xs (v3_2 + 1).toNatClampNeg) (xs (v3_2 + 2).toNatClampNeg) (xs (v3_2 + 3).toNatClampNeg) (fun (r_240 : Int32) (u8_241 : Ob) =>
                                                  ((r_234 = r_240) →
                                                    LL_1 (v3_2 + 6) uf_3 um_4 ut_5 uh_6 ug_7 ur_8 uw_9 ux_235 uy_236 u8_241) ∧ ((¬ r_234 = r_240) →
                                                    False)))) ∧ (¬ ((xs v3_2.toNatClampNeg) &&& 31) = 21 →
                                                  (((xs v3_2.toNatClampNeg) &&& 31) = 22 →
                                                    vp_in (v3_2 + 1) LN ∧
                                                    wp_X7_drop uf_3 ux_10 uy_11 (xs (v3_2 + 1).toNatClampNeg) (fun (r_245 : Int32) (ux_246 : Ob) (uy_247 : Ob) =>
                                                    vp_in (v3_2 + 1) LN ∧
                                                    wp_X8_drop u8_12 (xs (v3_2 + 1).toNatClampNeg) (fun (r_249 : Int32) (u8_250 : Ob) =>
                                                    ((r_245 = r_249) →
                                                      LL_1 (v3_2 + 6) uf_3 um_4 ut_5 uh_6 ug_7 ur_8 uw_9 ux_246 uy_247 u8_250) ∧ ((¬ r_245 = r_249) →
                                                      False)))) ∧ (¬ ((xs v3_2.toNatClampNeg) &&& 31) = 22 →
                                                    (((xs v3_2.toNatClampNeg) &&& 31) = 23 →
                                                      vp_in (v3_2 + 1) LN ∧
                                                      vp_in (v3_2 + 2) LN ∧
                                                      vp_in (v3_2 + 3) LN ∧
                                                      vp_in (v3_2 + 4) LN ∧
                                                      wp_X7_item uf_3 ux_10 uy_11 (xs (v3_2 + 1).toNatClampNeg) (xs (v3_2 + 2).toNatClampNeg) (xs (v3_2 + 3).toNatClampNeg) (xs (v3_2 + 4).toNatClampNeg) (fun (r_257 : Int32) (ux_258 : Ob) (uy_259 : Ob) =>
                                                      vp_in (v3_2 + 1) LN ∧
                                                      vp_in (v3_2 + 2) LN ∧
                                                      vp_in (v3_2 + 3) LN ∧
                                                      vp_in (v3_2 + 4) LN ∧
                                                      wp_X8_item u8_12 (xs (v3_2 + 1).toNatClampNeg) (xs (v3_2 + 2).toNatClampNeg) (xs (v3_2 + 3).toNatClampNeg) (xs (v3_2 + 4).toNatClampNeg) (fun (r_264 : Int32) (u8_265 : Ob) =>
                                                      ((r_257 = r_264) →
                                                        LL_1 (v3_2 + 6) uf_3 um_4 ut_5 uh_6 ug_7 ur_8 uw_9 ux_258 uy_259 u8_265) ∧ ((¬ r_257 = r_264) →
                                                        False)))) ∧ (¬ ((xs v3_2.toNatClampNeg) &&& 31) = 23 →
                                                      LL_1 (v3_2 + 6) uf_3 um_4 ut_5 uh_6 ug_7 ur_8 uw_9 ux_10 uy_11 u8_12)))))))))))))))))))))))))) n 0 uf um ut uh ug ur uw ux uy u8
