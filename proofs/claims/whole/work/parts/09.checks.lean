theorem m_c0 : m_ckt 0 m_t0 m_t0 = true := by decide +kernel
theorem m_m0 : m_ckm 0 = true := by decide +kernel
set_option maxRecDepth 100000 in
theorem m_w0 : lw_tbl[117]? = some (.code m_y0 prog_3_method_1_code 1 none) := rfl
theorem m_c1 : m_ckt 1 m_t1 m_t1 = true := by decide +kernel
theorem m_m1 : m_ckm 1 = true := by decide +kernel
set_option maxRecDepth 100000 in
theorem m_w1 : lw_tbl[286]? = some (.code m_y1 prog_3_method_2_code 4 (some .boolean)) := rfl
theorem m_c2 : m_ckt 2 m_t2 m_t2 = true := by decide +kernel
theorem m_m2 : m_ckm 2 = true := by decide +kernel
set_option maxRecDepth 100000 in
theorem m_w2 : lw_tbl[291]? = some (.code m_y2 prog_3_method_3_code 2 (some .boolean)) := rfl
theorem m_c3 : m_ckt 3 m_t3 m_t3 = true := by decide +kernel
theorem m_m3 : m_ckm 3 = true := by decide +kernel
set_option maxRecDepth 100000 in
theorem m_w3 : lw_tbl[312]? = some (.code m_y3 prog_3_method_4_code 3 (some .int)) := rfl
theorem m_c4 : m_ckt 4 m_t4 m_t4 = true := by decide +kernel
theorem m_m4 : m_ckm 4 = true := by decide +kernel
set_option maxRecDepth 100000 in
theorem m_w4 : lw_tbl[308]? = some (.code m_y4 prog_3_method_5_code 8 (some .int)) := rfl
theorem m_c5 : m_ckt 5 m_t5 m_t5 = true := by decide +kernel
theorem m_m5 : m_ckm 5 = true := by decide +kernel
set_option maxRecDepth 100000 in
theorem m_w5 : lw_tbl[320]? = some (.code m_y5 prog_3_method_6_code 3 (some .int)) := rfl
theorem m_c6 : m_ckt 6 m_t6 m_t6 = true := by decide +kernel
theorem m_m6 : m_ckm 6 = true := by decide +kernel
set_option maxRecDepth 100000 in
theorem m_w6 : lw_tbl[728]? = some (.code m_y6 prog_3_method_7_code 2 none) := rfl
theorem m_c7 : m_ckt 7 m_t7 m_t7 = true := by decide +kernel
theorem m_m7 : m_ckm 7 = true := by decide +kernel
set_option maxRecDepth 100000 in
theorem m_w7 : lw_tbl[231]? = some (.code m_y7 prog_4_method_1_code 2 none) := rfl
theorem m_c8 : m_ckt 8 m_t8 m_t8 = true := by decide +kernel
theorem m_m8 : m_ckm 8 = true := by decide +kernel
set_option maxRecDepth 100000 in
theorem m_w8 : lw_tbl[401]? = some (.code m_y8 prog_4_method_2_code 2 (some .boolean)) := rfl
theorem m_c9 : m_ckt 9 m_t9 m_t9 = true := by decide +kernel
theorem m_m9 : m_ckm 9 = true := by decide +kernel
set_option maxRecDepth 100000 in
theorem m_w9 : lw_tbl[404]? = some (.code m_y9 prog_4_method_3_code 2 (some .boolean)) := rfl
theorem m_c10 : m_ckt 10 m_t10 m_t10 = true := by decide +kernel
theorem m_m10 : m_ckm 10 = true := by decide +kernel
set_option maxRecDepth 100000 in
theorem m_w10 : lw_tbl[501]? = some (.code m_y10 prog_4_method_4_code 4 (some .int)) := rfl
theorem m_c11 : m_ckt 11 m_t11 m_t11 = true := by decide +kernel
theorem m_m11 : m_ckm 11 = true := by decide +kernel
set_option maxRecDepth 100000 in
theorem m_w11 : lw_tbl[416]? = some (.code m_y11 prog_4_method_5_code 5 (some .int)) := rfl
theorem m_c12 : m_ckt 12 m_t12 m_t12 = true := by decide +kernel
theorem m_m12 : m_ckm 12 = true := by decide +kernel
set_option maxRecDepth 100000 in
theorem m_w12 : lw_tbl[420]? = some (.code m_y12 prog_4_method_6_code 3 (some .int)) := rfl
theorem m_c13 : m_ckt 13 m_t13 m_t13 = true := by decide +kernel
theorem m_m13 : m_ckm 13 = true := by decide +kernel
set_option maxRecDepth 100000 in
theorem m_w13 : lw_tbl[428]? = some (.code m_y13 prog_4_method_7_code 4 none) := rfl
theorem m_c14 : m_ckt 14 m_t14 m_t14 = true := by decide +kernel
theorem m_m14 : m_ckm 14 = true := by decide +kernel
set_option maxRecDepth 100000 in
theorem m_w14 : lw_tbl[458]? = some (.code m_y14 prog_4_method_8_code 6 (some .int)) := rfl
theorem m_c15 : m_ckt 15 m_t15 m_t15 = true := by decide +kernel
theorem m_m15 : m_ckm 15 = true := by decide +kernel
set_option maxRecDepth 100000 in
theorem m_w15 : lw_tbl[462]? = some (.code m_y15 prog_4_method_9_code 6 (some .int)) := rfl
theorem m_c16 : m_ckt 16 m_t16 m_t16 = true := by decide +kernel
theorem m_m16 : m_ckm 16 = true := by decide +kernel
set_option maxRecDepth 100000 in
theorem m_w16 : lw_tbl[432]? = some (.code m_y16 prog_4_method_10_code 7 (some .int)) := rfl
theorem m_c17 : m_ckt 17 m_t17 m_t17 = true := by decide +kernel
theorem m_m17 : m_ckm 17 = true := by decide +kernel
set_option maxRecDepth 100000 in
theorem m_w17 : lw_tbl[424]? = some (.code m_y17 prog_4_method_11_code 3 (some .int)) := rfl
theorem m_c18 : m_ckt 18 m_t18 m_t18 = true := by decide +kernel
theorem m_m18 : m_ckm 18 = true := by decide +kernel
set_option maxRecDepth 100000 in
theorem m_w18 : lw_tbl[436]? = some (.code m_y18 prog_4_method_12_code 4 (some .int)) := rfl
theorem m_c19 : m_ckt 19 m_t19 m_t19 = true := by decide +kernel
theorem m_m19 : m_ckm 19 = true := by decide +kernel
set_option maxRecDepth 100000 in
theorem m_w19 : lw_tbl[440]? = some (.code m_y19 prog_4_method_13_code 3 (some .boolean)) := rfl
theorem m_c20 : m_ckt 20 m_t20 m_t20 = true := by decide +kernel
theorem m_m20 : m_ckm 20 = true := by decide +kernel
set_option maxRecDepth 100000 in
theorem m_w20 : lw_tbl[470]? = some (.code m_y20 prog_4_method_14_code 7 (some .int)) := rfl
theorem m_c21 : m_ckt 21 m_t21 m_t21 = true := by decide +kernel
theorem m_m21 : m_ckm 21 = true := by decide +kernel
set_option maxRecDepth 100000 in
theorem m_w21 : lw_tbl[474]? = some (.code m_y21 prog_4_method_15_code 5 (some .int)) := rfl
theorem m_c22 : m_ckt 22 m_t22 m_t22 = true := by decide +kernel
theorem m_m22 : m_ckm 22 = true := by decide +kernel
set_option maxRecDepth 100000 in
theorem m_w22 : lw_tbl[505]? = some (.code m_y22 prog_4_method_16_code 3 (some .int)) := rfl
theorem m_c23 : m_ckt 23 m_t23 m_t23 = true := by decide +kernel
theorem m_m23 : m_ckm 23 = true := by decide +kernel
set_option maxRecDepth 100000 in
theorem m_w23 : lw_tbl[509]? = some (.code m_y23 prog_4_method_17_code 5 (some .boolean)) := rfl
theorem m_c24 : m_ckt 24 m_t24 m_t24 = true := by decide +kernel
theorem m_m24 : m_ckm 24 = true := by decide +kernel
set_option maxRecDepth 100000 in
theorem m_w24 : lw_tbl[397]? = some (.code m_y24 prog_4_method_18_code 4 (some .boolean)) := rfl
theorem m_c25 : m_ckt 25 m_t25 m_t25 = true := by decide +kernel
theorem m_m25 : m_ckm 25 = true := by decide +kernel
set_option maxRecDepth 100000 in
theorem m_w25 : lw_tbl[513]? = some (.code m_y25 prog_4_method_19_code 5 none) := rfl
theorem m_c26 : m_ckt 26 m_t26 m_t26 = true := by decide +kernel
theorem m_m26 : m_ckm 26 = true := by decide +kernel
set_option maxRecDepth 100000 in
theorem m_w26 : lw_tbl[453]? = some (.code m_y26 prog_4_method_20_code 2 none) := rfl
theorem m_c27 : m_ckt 27 m_t27 m_t27 = true := by decide +kernel
theorem m_m27 : m_ckm 27 = true := by decide +kernel
set_option maxRecDepth 100000 in
theorem m_w27 : lw_tbl[526]? = some (.code m_y27 prog_4_method_21_code 2 none) := rfl
theorem m_c28 : m_ckt 28 m_t28 m_t28 = true := by decide +kernel
theorem m_m28 : m_ckm 28 = true := by decide +kernel
set_option maxRecDepth 100000 in
theorem m_w28 : lw_tbl[449]? = some (.code m_y28 prog_4_method_22_code 4 none) := rfl
theorem m_c29 : m_ckt 29 m_t29 m_t29 = true := by decide +kernel
theorem m_m29 : m_ckm 29 = true := by decide +kernel
set_option maxRecDepth 100000 in
theorem m_w29 : lw_tbl[530]? = some (.code m_y29 prog_4_method_23_code 2 none) := rfl
theorem m_c30 : m_ckt 30 m_t30 m_t30 = true := by decide +kernel
theorem m_m30 : m_ckm 30 = true := by decide +kernel
set_option maxRecDepth 100000 in
theorem m_w30 : lw_tbl[444]? = some (.code m_y30 prog_4_method_24_code 3 none) := rfl
theorem m_c31 : m_ckt 31 m_t31 m_t31 = true := by decide +kernel
theorem m_m31 : m_ckm 31 = true := by decide +kernel
set_option maxRecDepth 100000 in
theorem m_w31 : lw_tbl[550]? = some (.code m_y31 prog_4_method_25_code 3 (some .int)) := rfl
theorem m_c32 : m_ckt 32 m_t32 m_t32 = true := by decide +kernel
theorem m_m32 : m_ckm 32 = true := by decide +kernel
set_option maxRecDepth 100000 in
theorem m_w32 : lw_tbl[393]? = some (.code m_y32 prog_4_method_26_code 2 (some .int)) := rfl
theorem m_c33 : m_ckt 33 m_t33 m_t33 = true := by decide +kernel
theorem m_m33 : m_ckm 33 = true := by decide +kernel
set_option maxRecDepth 100000 in
theorem m_w33 : lw_tbl[586]? = some (.code m_y33 prog_5_method_1_code 3 none) := rfl
theorem m_c34 : m_ckt 34 m_t34 m_t34 = true := by decide +kernel
theorem m_m34 : m_ckm 34 = true := by decide +kernel
set_option maxRecDepth 100000 in
theorem m_w34 : lw_tbl[629]? = some (.code m_y34 prog_5_method_2_code 5 (some .int)) := rfl
theorem m_c35 : m_ckt 35 m_t35 m_t35 = true := by decide +kernel
theorem m_m35 : m_ckm 35 = true := by decide +kernel
set_option maxRecDepth 100000 in
theorem m_w35 : lw_tbl[635]? = some (.code m_y35 prog_5_method_3_code 6 (some .boolean)) := rfl
theorem m_c36 : m_ckt 36 m_t36 m_t36 = true := by decide +kernel
theorem m_m36 : m_ckm 36 = true := by decide +kernel
set_option maxRecDepth 100000 in
theorem m_w36 : lw_tbl[639]? = some (.code m_y36 prog_5_method_4_code 4 none) := rfl
theorem m_c37 : m_ckt 37 m_t37 m_t37 = true := by decide +kernel
theorem m_m37 : m_ckm 37 = true := by decide +kernel
set_option maxRecDepth 100000 in
theorem m_w37 : lw_tbl[643]? = some (.code m_y37 prog_5_method_5_code 4 (some .int)) := rfl
theorem m_c38 : m_ckt 38 m_t38 m_t38 = true := by decide +kernel
theorem m_m38 : m_ckm 38 = true := by decide +kernel
set_option maxRecDepth 100000 in
theorem m_w38 : lw_tbl[647]? = some (.code m_y38 prog_5_method_6_code 3 (some .int)) := rfl
theorem m_c39 : m_ckt 39 m_t39 m_t39 = true := by decide +kernel
theorem m_m39 : m_ckm 39 = true := by decide +kernel
set_option maxRecDepth 100000 in
theorem m_w39 : lw_tbl[651]? = some (.code m_y39 prog_5_method_7_code 5 (some .boolean)) := rfl
theorem m_c40 : m_ckt 40 m_t40 m_t40 = true := by decide +kernel
theorem m_m40 : m_ckm 40 = true := by decide +kernel
set_option maxRecDepth 100000 in
theorem m_w40 : lw_tbl[655]? = some (.code m_y40 prog_5_method_8_code 5 (some .boolean)) := rfl
theorem m_c41 : m_ckt 41 m_t41 m_t41 = true := by decide +kernel
theorem m_m41 : m_ckm 41 = true := by decide +kernel
set_option maxRecDepth 100000 in
theorem m_w41 : lw_tbl[661]? = some (.code m_y41 prog_5_method_9_code 3 none) := rfl
theorem m_c42 : m_ckt 42 m_t42 m_t42 = true := by decide +kernel
theorem m_m42 : m_ckm 42 = true := by decide +kernel
set_option maxRecDepth 100000 in
theorem m_w42 : lw_tbl[665]? = some (.code m_y42 prog_5_method_10_code 4 (some .boolean)) := rfl
theorem m_c43 : m_ckt 43 m_t43 m_t43 = true := by decide +kernel
theorem m_m43 : m_ckm 43 = true := by decide +kernel
set_option maxRecDepth 100000 in
theorem m_w43 : lw_tbl[111]? = some (.code m_y43 prog_6_method_1_code 1 none) := rfl
theorem m_c44 : m_ckt 44 m_t44 m_t44 = true := by decide +kernel
theorem m_m44 : m_ckm 44 = true := by decide +kernel
set_option maxRecDepth 100000 in
theorem m_w44 : lw_tbl[357]? = some (.code m_y44 prog_6_method_2_code 1 (some .boolean)) := rfl
theorem m_c45 : m_ckt 45 m_t45 m_t45 = true := by decide +kernel
theorem m_m45 : m_ckm 45 = true := by decide +kernel
set_option maxRecDepth 100000 in
theorem m_w45 : lw_tbl[724]? = some (.code m_y45 prog_6_method_3_code 2 none) := rfl
theorem m_c46 : m_ckt 46 m_t46 m_t46 = true := by decide +kernel
theorem m_m46 : m_ckm 46 = true := by decide +kernel
set_option maxRecDepth 100000 in
theorem m_w46 : lw_tbl[179]? = some (.code m_y46 prog_6_method_4_code 2 none) := rfl
theorem m_c47 : m_ckt 47 m_t47 m_t47 = true := by decide +kernel
theorem m_m47 : m_ckm 47 = true := by decide +kernel
set_option maxRecDepth 100000 in
theorem m_w47 : lw_tbl[193]? = some (.code m_y47 prog_6_method_5_code 1 none) := rfl
theorem m_c48 : m_ckt 48 m_t48 m_t48 = true := by decide +kernel
theorem m_m48 : m_ckm 48 = true := by decide +kernel
set_option maxRecDepth 100000 in
theorem m_w48 : lw_tbl[304]? = some (.code m_y48 prog_6_method_6_code 3 (some .int)) := rfl
theorem m_c49 : m_ckt 49 m_t49 m_t49 = true := by decide +kernel
theorem m_m49 : m_ckm 49 = true := by decide +kernel
set_option maxRecDepth 100000 in
theorem m_w49 : lw_tbl[300]? = some (.code m_y49 prog_6_method_7_code 1 (some .boolean)) := rfl
theorem m_c50 : m_ckt 50 m_t50 m_t50 = true := by decide +kernel
theorem m_m50 : m_ckm 50 = true := by decide +kernel
set_option maxRecDepth 100000 in
theorem m_w50 : lw_tbl[384]? = some (.code m_y50 prog_6_method_8_code 3 (some .boolean)) := rfl
theorem m_c51 : m_ckt 51 m_t51 m_t51 = true := by decide +kernel
theorem m_m51 : m_ckm 51 = true := by decide +kernel
set_option maxRecDepth 100000 in
theorem m_w51 : lw_tbl[189]? = some (.code m_y51 prog_6_method_9_code 5 none) := rfl
theorem m_c52 : m_ckt 52 m_t52 m_t52 = true := by decide +kernel
theorem m_m52 : m_ckm 52 = true := by decide +kernel
set_option maxRecDepth 100000 in
theorem m_w52 : lw_tbl[478]? = some (.code m_y52 prog_6_method_10_code 6 none) := rfl
theorem m_c53 : m_ckt 53 m_t53 m_t53 = true := by decide +kernel
theorem m_m53 : m_ckm 53 = true := by decide +kernel
set_option maxRecDepth 100000 in
theorem m_w53 : lw_tbl[157]? = some (.code m_y53 prog_7_method_1_code 1 none) := rfl
theorem m_c54 : m_ckt 54 m_t54 m_t54 = true := by decide +kernel
theorem m_m54 : m_ckm 54 = true := by decide +kernel
set_option maxRecDepth 100000 in
theorem m_w54 : lw_tbl[685]? = some (.code m_y54 prog_7_method_2_code 1 (some .int)) := rfl
theorem m_c55 : m_ckt 55 m_t55 m_t55 = true := by decide +kernel
theorem m_m55 : m_ckm 55 = true := by decide +kernel
set_option maxRecDepth 100000 in
theorem m_w55 : lw_tbl[699]? = some (.code m_y55 prog_7_method_3_code 1 (some .boolean)) := rfl
theorem m_c56 : m_ckt 56 m_t56 m_t56 = true := by decide +kernel
theorem m_m56 : m_ckm 56 = true := by decide +kernel
set_option maxRecDepth 100000 in
theorem m_w56 : lw_tbl[517]? = some (.code m_y56 prog_7_method_4_code 7 none) := rfl
theorem m_c57 : m_ckt 57 m_t57 m_t57 = true := by decide +kernel
theorem m_m57 : m_ckm 57 = true := by decide +kernel
set_option maxRecDepth 100000 in
theorem m_w57 : lw_tbl[482]? = some (.code m_y57 prog_7_method_5_code 5 none) := rfl
theorem m_c58 : m_ckt 58 m_t58 m_t58 = true := by decide +kernel
theorem m_m58 : m_ckm 58 = true := by decide +kernel
set_option maxRecDepth 100000 in
theorem m_w58 : lw_tbl[521]? = some (.code m_y58 prog_7_method_6_code 3 (some .int)) := rfl
theorem m_c59 : m_ckt 59 m_t59 m_t59 = true := by decide +kernel
theorem m_m59 : m_ckm 59 = true := by decide +kernel
set_option maxRecDepth 100000 in
theorem m_w59 : lw_tbl[707]? = some (.code m_y59 prog_7_method_7_code 4 (some .int)) := rfl
theorem m_c60 : m_ckt 60 m_t60 m_t60 = true := by decide +kernel
theorem m_m60 : m_ckm 60 = true := by decide +kernel
set_option maxRecDepth 100000 in
theorem m_w60 : lw_tbl[712]? = some (.code m_y60 prog_7_method_8_code 4 (some .int)) := rfl
theorem m_c61 : m_ckt 61 m_t61 m_t61 = true := by decide +kernel
theorem m_m61 : m_ckm 61 = true := by decide +kernel
set_option maxRecDepth 100000 in
theorem m_w61 : lw_tbl[716]? = some (.code m_y61 prog_7_method_9_code 3 none) := rfl
theorem m_c62 : m_ckt 62 m_t62 m_t62 = true := by decide +kernel
theorem m_m62 : m_ckm 62 = true := by decide +kernel
set_option maxRecDepth 100000 in
theorem m_w62 : lw_tbl[738]? = some (.code m_y62 prog_7_method_10_code 2 none) := rfl
theorem m_c63 : m_ckt 63 m_t63 m_t63 = true := by decide +kernel
theorem m_m63 : m_ckm 63 = true := by decide +kernel
set_option maxRecDepth 100000 in
theorem m_w63 : lw_tbl[133]? = some (.code m_y63 prog_8_method_1_code 1 none) := rfl
theorem m_c64 : m_ckt 64 m_t64 m_t64 = true := by decide +kernel
theorem m_m64 : m_ckm 64 = true := by decide +kernel
set_option maxRecDepth 100000 in
theorem m_w64 : lw_tbl[339]? = some (.code m_y64 prog_8_method_2_code 2 (some .boolean)) := rfl
theorem m_c65 : m_ckt 65 m_t65 m_t65 = true := by decide +kernel
theorem m_m65 : m_ckm 65 = true := by decide +kernel
set_option maxRecDepth 100000 in
theorem m_w65 : lw_tbl[328]? = some (.code m_y65 prog_8_method_3_code 4 none) := rfl
theorem m_c66 : m_ckt 66 m_t66 m_t66 = true := by decide +kernel
theorem m_m66 : m_ckm 66 = true := by decide +kernel
set_option maxRecDepth 100000 in
theorem m_w66 : lw_tbl[343]? = some (.code m_y66 prog_8_method_4_code 5 none) := rfl
theorem m_c67 : m_ckt 67 m_t67 m_t67 = true := by decide +kernel
theorem m_m67 : m_ckm 67 = true := by decide +kernel
set_option maxRecDepth 100000 in
theorem m_w67 : lw_tbl[346]? = some (.code m_y67 prog_8_method_5_code 3 (some .long)) := rfl
theorem m_c68 : m_ckt 68 m_t68 m_t68 = true := by decide +kernel
theorem m_m68 : m_ckm 68 = true := by decide +kernel
set_option maxRecDepth 100000 in
theorem m_w68 : lw_tbl[733]? = some (.code m_y68 prog_8_method_6_code 2 none) := rfl
theorem m_c69 : m_ckt 69 m_t69 m_t69 = true := by decide +kernel
theorem m_m69 : m_ckm 69 = true := by decide +kernel
set_option maxRecDepth 100000 in
theorem m_w69 : lw_tbl[225]? = some (.code m_y69 prog_9_method_1_code 2 none) := rfl
theorem m_c70 : m_ckt 70 m_t70 m_t70 = true := by decide +kernel
theorem m_m70 : m_ckm 70 = true := by decide +kernel
set_option maxRecDepth 100000 in
theorem m_w70 : lw_tbl[388]? = some (.code m_y70 prog_9_method_2_code 4 (some .int)) := rfl
theorem m_c71 : m_ckt 71 m_t71 m_t71 = true := by decide +kernel
theorem m_m71 : m_ckm 71 = true := by decide +kernel
set_option maxRecDepth 100000 in
theorem m_w71 : lw_tbl[408]? = some (.code m_y71 prog_9_method_3_code 2 (some .int)) := rfl
theorem m_c72 : m_ckt 72 m_t72 m_t72 = true := by decide +kernel
theorem m_m72 : m_ckm 72 = true := by decide +kernel
set_option maxRecDepth 100000 in
theorem m_w72 : lw_tbl[412]? = some (.code m_y72 prog_9_method_4_code 9 (some .int)) := rfl
theorem m_c73 : m_ckt 73 m_t73 m_t73 = true := by decide +kernel
theorem m_m73 : m_ckm 73 = true := by decide +kernel
set_option maxRecDepth 100000 in
theorem m_w73 : lw_tbl[497]? = some (.code m_y73 prog_9_method_5_code 8 (some .int)) := rfl
theorem m_c74 : m_ckt 74 m_t74 m_t74 = true := by decide +kernel
theorem m_m74 : m_ckm 74 = true := by decide +kernel
set_option maxRecDepth 100000 in
theorem m_w74 : lw_tbl[493]? = some (.code m_y74 prog_9_method_6_code 3 (some .int)) := rfl
theorem m_c75 : m_ckt 75 m_t75 m_t75 = true := by decide +kernel
theorem m_m75 : m_ckm 75 = true := by decide +kernel
set_option maxRecDepth 100000 in
theorem m_w75 : lw_tbl[466]? = some (.code m_y75 prog_9_method_7_code 2 (some .int)) := rfl
theorem m_c76 : m_ckt 76 m_t76 m_t76 = true := by decide +kernel
theorem m_m76 : m_ckm 76 = true := by decide +kernel
set_option maxRecDepth 100000 in
theorem m_w76 : lw_tbl[487]? = some (.code m_y76 prog_9_method_8_code 4 (some .int)) := rfl
theorem m_c77 : m_ckt 77 m_t77 m_t77 = true := by decide +kernel
theorem m_m77 : m_ckm 77 = true := by decide +kernel
set_option maxRecDepth 100000 in
theorem m_w77 : lw_tbl[541]? = some (.code m_y77 prog_9_method_9_code 2 (some .int)) := rfl
theorem m_c78 : m_ckt 78 m_t78 m_t78 = true := by decide +kernel
theorem m_m78 : m_ckm 78 = true := by decide +kernel
set_option maxRecDepth 100000 in
theorem m_w78 : lw_tbl[538]? = some (.code m_y78 prog_9_method_10_code 2 (some .int)) := rfl
theorem m_c79 : m_ckt 79 m_t79 m_t79 = true := by decide +kernel
theorem m_m79 : m_ckm 79 = true := by decide +kernel
set_option maxRecDepth 100000 in
theorem m_w79 : lw_tbl[555]? = some (.code m_y79 prog_9_method_11_code 6 (some .int)) := rfl
theorem m_c80 : m_ckt 80 m_t80 m_t80 = true := by decide +kernel
theorem m_m80 : m_ckm 80 = true := by decide +kernel
set_option maxRecDepth 100000 in
theorem m_w80 : lw_tbl[560]? = some (.code m_y80 prog_9_method_12_code 4 (some .int)) := rfl
theorem m_c81 : m_ckt 81 m_t81 m_t81 = true := by decide +kernel
theorem m_m81 : m_ckm 81 = true := by decide +kernel
set_option maxRecDepth 100000 in
theorem m_w81 : lw_tbl[545]? = some (.code m_y81 prog_9_method_13_code 3 none) := rfl
theorem m_c82 : m_ckt 82 m_t82 m_t82 = true := by decide +kernel
theorem m_m82 : m_ckm 82 = true := by decide +kernel
set_option maxRecDepth 100000 in
theorem m_w82 : lw_tbl[534]? = some (.code m_y82 prog_9_method_14_code 4 (some .int)) := rfl
theorem m_c83 : m_ckt 83 m_t83 m_t83 = true := by decide +kernel
theorem m_m83 : m_ckm 83 = true := by decide +kernel
set_option maxRecDepth 100000 in
theorem m_w83 : lw_tbl[564]? = some (.code m_y83 prog_9_method_15_code 4 (some .int)) := rfl
theorem m_c84 : m_ckt 84 m_t84 m_t84 = true := by decide +kernel
theorem m_m84 : m_ckm 84 = true := by decide +kernel
set_option maxRecDepth 100000 in
theorem m_w84 : lw_tbl[568]? = some (.code m_y84 prog_9_method_16_code 7 (some .boolean)) := rfl
theorem m_c85 : m_ckt 85 m_t85 m_t85 = true := by decide +kernel
theorem m_m85 : m_ckm 85 = true := by decide +kernel
set_option maxRecDepth 100000 in
theorem m_w85 : lw_tbl[103]? = some (.code m_y85 prog_1_method_1_code 1 none) := rfl
theorem m_c86 : m_ckt 86 m_t86 m_t86 = true := by decide +kernel
theorem m_m86 : m_ckm 86 = true := by decide +kernel
set_option maxRecDepth 100000 in
theorem m_w86 : lw_tbl[280]? = some (.code m_y86 prog_1_method_2_code 6 (some .int)) := rfl
theorem m_c87 : m_ckt 87 m_t87 m_t87 = true := by decide +kernel
theorem m_m87 : m_ckm 87 = true := by decide +kernel
set_option maxRecDepth 100000 in
theorem m_w87 : lw_tbl[316]? = some (.code m_y87 prog_1_method_3_code 1 (some .int)) := rfl
theorem m_c88 : m_ckt 88 m_t88 m_t88 = true := by decide +kernel
theorem m_m88 : m_ckm 88 = true := by decide +kernel
set_option maxRecDepth 100000 in
theorem m_w88 : lw_tbl[324]? = some (.code m_y88 prog_1_method_4_code 4 (some .int)) := rfl
theorem m_c89 : m_ckt 89 m_t89 m_t89 = true := by decide +kernel
theorem m_m89 : m_ckm 89 = true := by decide +kernel
set_option maxRecDepth 100000 in
theorem m_w89 : lw_tbl[335]? = some (.code m_y89 prog_1_method_5_code 5 (some .int)) := rfl
theorem m_c90 : m_ckt 90 m_t90 m_t90 = true := by decide +kernel
theorem m_m90 : m_ckm 90 = true := by decide +kernel
set_option maxRecDepth 100000 in
theorem m_w90 : lw_tbl[350]? = some (.code m_y90 prog_1_method_6_code 2 (some .int)) := rfl
theorem m_c91 : m_ckt 91 m_t91 m_t91 = true := by decide +kernel
theorem m_m91 : m_ckm 91 = true := by decide +kernel
set_option maxRecDepth 100000 in
theorem m_w91 : lw_tbl[354]? = some (.code m_y91 prog_1_method_7_code 4 (some .int)) := rfl
theorem m_c92 : m_ckt 92 m_t92 m_t92 = true := by decide +kernel
theorem m_m92 : m_ckm 92 = true := by decide +kernel
set_option maxRecDepth 100000 in
theorem m_w92 : lw_tbl[362]? = some (.code m_y92 prog_1_method_8_code 3 (some .int)) := rfl
theorem m_c93 : m_ckt 93 m_t93 m_t93 = true := by decide +kernel
theorem m_m93 : m_ckm 93 = true := by decide +kernel
set_option maxRecDepth 100000 in
theorem m_w93 : lw_tbl[366]? = some (.code m_y93 prog_1_method_9_code 3 (some .int)) := rfl
theorem m_c94 : m_ckt 94 m_t94 m_t94 = true := by decide +kernel
theorem m_m94 : m_ckm 94 = true := by decide +kernel
set_option maxRecDepth 100000 in
theorem m_w94 : lw_tbl[370]? = some (.code m_y94 prog_1_method_10_code 2 (some .int)) := rfl
theorem m_c95 : m_ckt 95 m_t95 m_t95 = true := by decide +kernel
theorem m_m95 : m_ckm 95 = true := by decide +kernel
set_option maxRecDepth 100000 in
theorem m_w95 : lw_tbl[374]? = some (.code m_y95 prog_1_method_11_code 2 (some .int)) := rfl
theorem m_c96 : m_ckt 96 m_t96 m_t96 = true := by decide +kernel
theorem m_m96 : m_ckm 96 = true := by decide +kernel
set_option maxRecDepth 100000 in
theorem m_w96 : lw_tbl[380]? = some (.code m_y96 prog_1_method_12_code 2 (some .int)) := rfl
theorem m_c97 : m_ckt 97 m_t97 m_t97 = true := by decide +kernel
theorem m_m97 : m_ckm 97 = true := by decide +kernel
set_option maxRecDepth 100000 in
theorem m_w97 : lw_tbl[577]? = some (.code m_y97 prog_1_method_13_code 8 (some .int)) := rfl
theorem m_c98 : m_ckt 98 m_t98 m_t98 = true := by decide +kernel
theorem m_m98 : m_ckm 98 = true := by decide +kernel
set_option maxRecDepth 100000 in
theorem m_w98 : lw_tbl[581]? = some (.code m_y98 prog_1_method_14_code 2 (some .int)) := rfl
theorem m_c99 : m_ckt 99 m_t99 m_t99 = true := by decide +kernel
theorem m_m99 : m_ckm 99 = true := by decide +kernel
set_option maxRecDepth 100000 in
theorem m_w99 : lw_tbl[669]? = some (.code m_y99 prog_1_method_15_code 3 (some .int)) := rfl
theorem m_c100 : m_ckt 100 m_t100 m_t100 = true := by decide +kernel
theorem m_m100 : m_ckm 100 = true := by decide +kernel
set_option maxRecDepth 100000 in
theorem m_w100 : lw_tbl[673]? = some (.code m_y100 prog_1_method_16_code 4 (some .int)) := rfl
theorem m_c101 : m_ckt 101 m_t101 m_t101 = true := by decide +kernel
theorem m_m101 : m_ckm 101 = true := by decide +kernel
set_option maxRecDepth 100000 in
theorem m_w101 : lw_tbl[677]? = some (.code m_y101 prog_1_method_17_code 4 (some .int)) := rfl
theorem m_c102 : m_ckt 102 m_t102 m_t102 = true := by decide +kernel
theorem m_m102 : m_ckm 102 = true := by decide +kernel
set_option maxRecDepth 100000 in
theorem m_w102 : lw_tbl[681]? = some (.code m_y102 prog_1_method_18_code 2 (some .int)) := rfl
theorem m_c103 : m_ckt 103 m_t103 m_t103 = true := by decide +kernel
theorem m_m103 : m_ckm 103 = true := by decide +kernel
set_option maxRecDepth 100000 in
theorem m_w103 : lw_tbl[692]? = some (.code m_y103 prog_1_method_19_code 3 (some .int)) := rfl
theorem m_c104 : m_ckt 104 m_t104 m_t104 = true := by decide +kernel
theorem m_m104 : m_ckm 104 = true := by decide +kernel
set_option maxRecDepth 100000 in
theorem m_w104 : lw_tbl[696]? = some (.code m_y104 prog_1_method_20_code 6 (some .int)) := rfl
theorem m_c105 : m_ckt 105 m_t105 m_t105 = true := by decide +kernel
theorem m_m105 : m_ckm 105 = true := by decide +kernel
set_option maxRecDepth 100000 in
theorem m_w105 : lw_tbl[703]? = some (.code m_y105 prog_1_method_21_code 1 (some .int)) := rfl
theorem m_c106 : m_ckt 106 m_t106 m_t106 = true := by decide +kernel
theorem m_m106 : m_ckm 106 = true := by decide +kernel
set_option maxRecDepth 100000 in
theorem m_w106 : lw_tbl[720]? = some (.code m_y106 prog_1_method_22_code 1 (some .int)) := rfl
theorem m_c107 : m_ckt 107 m_t107 m_t107 = true := by decide +kernel
theorem m_m107 : m_ckm 107 = true := by decide +kernel
set_option maxRecDepth 100000 in
theorem m_w107 : lw_tbl[742]? = some (.code m_y107 prog_1_method_23_code 1 (some .int)) := rfl
theorem m_c108 : m_ckt 108 m_t108 m_t108 = true := by decide +kernel
theorem m_m108 : m_ckm 108 = true := by decide +kernel
set_option maxRecDepth 100000 in
theorem m_w108 : lw_tbl[746]? = some (.code m_y108 prog_1_method_24_code 5 (some .long)) := rfl
theorem m_c109 : m_ckt 109 m_t109 m_t109 = true := by decide +kernel
theorem m_m109 : m_ckm 109 = true := by decide +kernel
set_option maxRecDepth 100000 in
theorem m_w109 : lw_tbl[283]? = some (.code m_y109 prog_1_method_25_code 2 (some .boolean)) := rfl
theorem m_c110 : m_ckt 110 m_t110 m_t110 = true := by decide +kernel
theorem m_m110 : m_ckm 110 = true := by decide +kernel
set_option maxRecDepth 100000 in
theorem m_w110 : lw_tbl[756]? = some (.code m_y110 prog_11_method_1_code 2 none) := rfl
theorem m_c111 : m_ckt 111 m_t111 m_t111 = true := by decide +kernel
theorem m_m111 : m_ckm 111 = true := by decide +kernel
set_option maxRecDepth 100000 in
theorem m_w111 : lw_tbl[922]? = some (.code m_y111 prog_11_method_2_code 3 (some .boolean)) := rfl
theorem m_c112 : m_ckt 112 m_t112 m_t112 = true := by decide +kernel
theorem m_m112 : m_ckm 112 = true := by decide +kernel
set_option maxRecDepth 100000 in
theorem m_w112 : lw_tbl[765]? = some (.code m_y112 prog_11_method_3_code 1 (some .int)) := rfl
theorem m_c113 : m_ckt 113 m_t113 m_t113 = true := by decide +kernel
theorem m_m113 : m_ckm 113 = true := by decide +kernel
set_option maxRecDepth 100000 in
theorem m_w113 : lw_tbl[772]? = some (.code m_y113 prog_11_method_4_code 1 (some .int)) := rfl
theorem m_c114 : m_ckt 114 m_t114 m_t114 = true := by decide +kernel
theorem m_m114 : m_ckm 114 = true := by decide +kernel
set_option maxRecDepth 100000 in
theorem m_w114 : lw_tbl[762]? = some (.code m_y114 prog_11_method_5_code 4 none) := rfl
theorem m_c115 : m_ckt 115 m_t115 m_t115 = true := by decide +kernel
theorem m_m115 : m_ckm 115 = true := by decide +kernel
set_option maxRecDepth 100000 in
theorem m_w115 : lw_tbl[769]? = some (.code m_y115 prog_11_method_6_code 5 none) := rfl
theorem m_c116 : m_ckt 116 m_t116 m_t116 = true := by decide +kernel
theorem m_m116 : m_ckm 116 = true := by decide +kernel
set_option maxRecDepth 100000 in
theorem m_w116 : lw_tbl[776]? = some (.code m_y116 prog_11_method_7_code 4 none) := rfl
theorem m_c117 : m_ckt 117 m_t117 m_t117 = true := by decide +kernel
theorem m_m117 : m_ckm 117 = true := by decide +kernel
set_option maxRecDepth 100000 in
theorem m_w117 : lw_tbl[780]? = some (.code m_y117 prog_11_method_8_code 4 none) := rfl
theorem m_c118 : m_ckt 118 m_t118 m_t118 = true := by decide +kernel
theorem m_m118 : m_ckm 118 = true := by decide +kernel
set_option maxRecDepth 100000 in
theorem m_w118 : lw_tbl[784]? = some (.code m_y118 prog_11_method_9_code 4 none) := rfl
theorem m_c119 : m_ckt 119 m_t119 m_t119 = true := by decide +kernel
theorem m_m119 : m_ckm 119 = true := by decide +kernel
set_option maxRecDepth 100000 in
theorem m_w119 : lw_tbl[938]? = some (.code m_y119 prog_11_method_10_code 3 (some .boolean)) := rfl
theorem m_c120 : m_ckt 120 m_t120 m_t120 = true := by decide +kernel
theorem m_m120 : m_ckm 120 = true := by decide +kernel
set_option maxRecDepth 100000 in
theorem m_w120 : lw_tbl[928]? = some (.code m_y120 prog_11_method_11_code 1 (some .boolean)) := rfl
theorem m_c121 : m_ckt 121 m_t121 m_t121 = true := by decide +kernel
theorem m_m121 : m_ckm 121 = true := by decide +kernel
set_option maxRecDepth 100000 in
theorem m_w121 : lw_tbl[931]? = some (.code m_y121 prog_11_method_12_code 1 (some .boolean)) := rfl
theorem m_c122 : m_ckt 122 m_t122 m_t122 = true := by decide +kernel
theorem m_m122 : m_ckm 122 = true := by decide +kernel
set_option maxRecDepth 100000 in
theorem m_w122 : lw_tbl[969]? = some (.code m_y122 prog_11_method_13_code 1 (some .boolean)) := rfl
theorem m_c123 : m_ckt 123 m_t123 m_t123 = true := by decide +kernel
theorem m_m123 : m_ckm 123 = true := by decide +kernel
set_option maxRecDepth 100000 in
theorem m_w123 : lw_tbl[934]? = some (.code m_y123 prog_11_method_14_code 1 (some .boolean)) := rfl
theorem m_c124 : m_ckt 124 m_t124 m_t124 = true := by decide +kernel
theorem m_m124 : m_ckm 124 = true := by decide +kernel
set_option maxRecDepth 100000 in
theorem m_w124 : lw_tbl[925]? = some (.code m_y124 prog_11_method_15_code 4 (some .boolean)) := rfl
theorem m_c125 : m_ckt 125 m_t125 m_t125 = true := by decide +kernel
theorem m_m125 : m_ckm 125 = true := by decide +kernel
set_option maxRecDepth 100000 in
theorem m_w125 : lw_tbl[919]? = some (.code m_y125 prog_11_method_16_code 7 (some .int)) := rfl
theorem m_c126 : m_ckt 126 m_t126 m_t126 = true := by decide +kernel
theorem m_m126 : m_ckm 126 = true := by decide +kernel
set_option maxRecDepth 100000 in
theorem m_w126 : lw_tbl[942]? = some (.code m_y126 prog_11_method_17_code 3 (some .int)) := rfl
theorem m_c127 : m_ckt 127 m_t127 m_t127 = true := by decide +kernel
theorem m_m127 : m_ckm 127 = true := by decide +kernel
set_option maxRecDepth 100000 in
theorem m_w127 : lw_tbl[946]? = some (.code m_y127 prog_11_method_18_code 5 (some .int)) := rfl
theorem m_c128 : m_ckt 128 m_t128 m_t128 = true := by decide +kernel
theorem m_m128 : m_ckm 128 = true := by decide +kernel
set_option maxRecDepth 100000 in
theorem m_w128 : lw_tbl[950]? = some (.code m_y128 prog_11_method_19_code 6 (some .int)) := rfl
theorem m_c129 : m_ckt 129 m_t129 m_t129 = true := by decide +kernel
theorem m_m129 : m_ckm 129 = true := by decide +kernel
set_option maxRecDepth 100000 in
theorem m_w129 : lw_tbl[954]? = some (.code m_y129 prog_11_method_20_code 3 (some .int)) := rfl
theorem m_c130 : m_ckt 130 m_t130 m_t130 = true := by decide +kernel
theorem m_m130 : m_ckm 130 = true := by decide +kernel
set_option maxRecDepth 100000 in
theorem m_w130 : lw_tbl[788]? = some (.code m_y130 prog_11_method_21_code 2 none) := rfl
theorem m_c131 : m_ckt 131 m_t131 m_t131 = true := by decide +kernel
theorem m_m131 : m_ckm 131 = true := by decide +kernel
set_option maxRecDepth 100000 in
theorem m_w131 : lw_tbl[958]? = some (.code m_y131 prog_11_method_22_code 5 (some .int)) := rfl
theorem m_c132 : m_ckt 132 m_t132 m_t132 = true := by decide +kernel
theorem m_m132 : m_ckm 132 = true := by decide +kernel
set_option maxRecDepth 100000 in
theorem m_w132 : lw_tbl[962]? = some (.code m_y132 prog_11_method_23_code 3 (some .int)) := rfl
theorem m_c133 : m_ckt 133 m_t133 m_t133 = true := by decide +kernel
theorem m_m133 : m_ckm 133 = true := by decide +kernel
set_option maxRecDepth 100000 in
theorem m_w133 : lw_tbl[966]? = some (.code m_y133 prog_11_method_24_code 3 (some .int)) := rfl
theorem m_c134 : m_ckt 134 m_t134 m_t134 = true := by decide +kernel
theorem m_m134 : m_ckm 134 = true := by decide +kernel
set_option maxRecDepth 100000 in
theorem m_w134 : lw_tbl[973]? = some (.code m_y134 prog_11_method_25_code 2 (some .int)) := rfl
theorem m_c135 : m_ckt 135 m_t135 m_t135 = true := by decide +kernel
theorem m_m135 : m_ckm 135 = true := by decide +kernel
set_option maxRecDepth 100000 in
theorem m_w135 : lw_tbl[977]? = some (.code m_y135 prog_11_method_26_code 3 (some .int)) := rfl
theorem m_c136 : m_ckt 136 m_t136 m_t136 = true := by decide +kernel
theorem m_m136 : m_ckm 136 = true := by decide +kernel
set_option maxRecDepth 100000 in
theorem m_w136 : lw_tbl[1037]? = some (.code m_y136 prog_11_method_27_code 10 none) := rfl
theorem m_c137 : m_ckt 137 m_t137 m_t137 = true := by decide +kernel
theorem m_m137 : m_ckm 137 = true := by decide +kernel
set_option maxRecDepth 100000 in
theorem m_w137 : lw_tbl[1033]? = some (.code m_y137 prog_11_method_28_code 6 none) := rfl
theorem m_c138 : m_ckt 138 m_t138 m_t138 = true := by decide +kernel
theorem m_m138 : m_ckm 138 = true := by decide +kernel
set_option maxRecDepth 100000 in
theorem m_w138 : lw_tbl[1013]? = some (.code m_y138 prog_11_method_29_code 4 none) := rfl
theorem m_c139 : m_ckt 139 m_t139 m_t139 = true := by decide +kernel
theorem m_m139 : m_ckm 139 = true := by decide +kernel
set_option maxRecDepth 100000 in
theorem m_w139 : lw_tbl[1045]? = some (.code m_y139 prog_11_method_30_code 2 none) := rfl
theorem m_c140 : m_ckt 140 m_t140 m_t140 = true := by decide +kernel
theorem m_m140 : m_ckm 140 = true := by decide +kernel
set_option maxRecDepth 100000 in
theorem m_w140 : lw_tbl[1001]? = some (.code m_y140 prog_11_method_31_code 5 (some .boolean)) := rfl
theorem m_c141 : m_ckt 141 m_t141 m_t141 = true := by decide +kernel
theorem m_m141 : m_ckm 141 = true := by decide +kernel
set_option maxRecDepth 100000 in
theorem m_w141 : lw_tbl[1017]? = some (.code m_y141 prog_11_method_32_code 6 none) := rfl
theorem m_c142 : m_ckt 142 m_t142 m_t142 = true := by decide +kernel
theorem m_m142 : m_ckm 142 = true := by decide +kernel
set_option maxRecDepth 100000 in
theorem m_w142 : lw_tbl[1009]? = some (.code m_y142 prog_11_method_33_code 4 none) := rfl
theorem m_c143 : m_ckt 143 m_t143 m_t143 = true := by decide +kernel
theorem m_m143 : m_ckm 143 = true := by decide +kernel
set_option maxRecDepth 100000 in
theorem m_w143 : lw_tbl[1029]? = some (.code m_y143 prog_11_method_34_code 5 none) := rfl
theorem m_c144 : m_ckt 144 m_t144 m_t144 = true := by decide +kernel
theorem m_m144 : m_ckm 144 = true := by decide +kernel
set_option maxRecDepth 100000 in
theorem m_w144 : lw_tbl[1041]? = some (.code m_y144 prog_11_method_35_code 4 none) := rfl
theorem m_c145 : m_ckt 145 m_t145 m_t145 = true := by decide +kernel
theorem m_m145 : m_ckm 145 = true := by decide +kernel
set_option maxRecDepth 100000 in
theorem m_w145 : lw_tbl[1069]? = some (.code m_y145 prog_11_method_36_code 5 (some .boolean)) := rfl
theorem m_c146 : m_ckt 146 m_t146 m_t146 = true := by decide +kernel
theorem m_m146 : m_ckm 146 = true := by decide +kernel
set_option maxRecDepth 100000 in
theorem m_w146 : lw_tbl[1065]? = some (.code m_y146 prog_11_method_37_code 4 (some .boolean)) := rfl
theorem m_c147 : m_ckt 147 m_t147 m_t147 = true := by decide +kernel
theorem m_m147 : m_ckm 147 = true := by decide +kernel
set_option maxRecDepth 100000 in
theorem m_w147 : lw_tbl[1061]? = some (.code m_y147 prog_11_method_38_code 4 (some .boolean)) := rfl
theorem m_c148 : m_ckt 148 m_t148 m_t148 = true := by decide +kernel
theorem m_m148 : m_ckm 148 = true := by decide +kernel
set_option maxRecDepth 100000 in
theorem m_w148 : lw_tbl[1005]? = some (.code m_y148 prog_11_method_39_code 2 (some .boolean)) := rfl
theorem m_c149 : m_ckt 149 m_t149 m_t149 = true := by decide +kernel
theorem m_m149 : m_ckm 149 = true := by decide +kernel
set_option maxRecDepth 100000 in
theorem m_w149 : lw_tbl[1057]? = some (.code m_y149 prog_11_method_40_code 5 (some .int)) := rfl
theorem m_c150 : m_ckt 150 m_t150 m_t150 = true := by decide +kernel
theorem m_m150 : m_ckm 150 = true := by decide +kernel
set_option maxRecDepth 100000 in
theorem m_w150 : lw_tbl[1077]? = some (.code m_y150 prog_11_method_41_code 4 none) := rfl
theorem m_c151 : m_ckt 151 m_t151 m_t151 = true := by decide +kernel
theorem m_m151 : m_ckm 151 = true := by decide +kernel
set_option maxRecDepth 100000 in
theorem m_w151 : lw_tbl[1073]? = some (.code m_y151 prog_11_method_42_code 6 (some .int)) := rfl
theorem m_c152 : m_ckt 152 m_t152 m_t152 = true := by decide +kernel
theorem m_m152 : m_ckm 152 = true := by decide +kernel
set_option maxRecDepth 100000 in
theorem m_w152 : lw_tbl[1085]? = some (.code m_y152 prog_11_method_43_code 7 (some .int)) := rfl
theorem m_c153 : m_ckt 153 m_t153 m_t153 = true := by decide +kernel
theorem m_m153 : m_ckm 153 = true := by decide +kernel
set_option maxRecDepth 100000 in
theorem m_w153 : lw_tbl[1089]? = some (.code m_y153 prog_11_method_44_code 6 none) := rfl
theorem m_c154 : m_ckt 154 m_t154 m_t154 = true := by decide +kernel
theorem m_m154 : m_ckm 154 = true := by decide +kernel
set_option maxRecDepth 100000 in
theorem m_w154 : lw_tbl[1025]? = some (.code m_y154 prog_11_method_45_code 6 none) := rfl
theorem m_c155 : m_ckt 155 m_t155 m_t155 = true := by decide +kernel
theorem m_m155 : m_ckm 155 = true := by decide +kernel
set_option maxRecDepth 100000 in
theorem m_w155 : lw_tbl[1021]? = some (.code m_y155 prog_11_method_46_code 9 (some .int)) := rfl
theorem m_c156 : m_ckt 156 m_t156 m_t156 = true := by decide +kernel
theorem m_m156 : m_ckm 156 = true := by decide +kernel
set_option maxRecDepth 100000 in
theorem m_w156 : lw_tbl[1113]? = some (.code m_y156 prog_11_method_47_code 8 (some .boolean)) := rfl
theorem m_c157 : m_ckt 157 m_t157 m_t157 = true := by decide +kernel
theorem m_m157 : m_ckm 157 = true := by decide +kernel
set_option maxRecDepth 100000 in
theorem m_w157 : lw_tbl[1117]? = some (.code m_y157 prog_11_method_48_code 6 (some .boolean)) := rfl
theorem m_c158 : m_ckt 158 m_t158 m_t158 = true := by decide +kernel
theorem m_m158 : m_ckm 158 = true := by decide +kernel
set_option maxRecDepth 100000 in
theorem m_w158 : lw_tbl[1101]? = some (.code m_y158 prog_11_method_49_code 5 (some .int)) := rfl
theorem m_c159 : m_ckt 159 m_t159 m_t159 = true := by decide +kernel
theorem m_m159 : m_ckm 159 = true := by decide +kernel
set_option maxRecDepth 100000 in
theorem m_w159 : lw_tbl[1105]? = some (.code m_y159 prog_11_method_50_code 4 (some .int)) := rfl
theorem m_c160 : m_ckt 160 m_t160 m_t160 = true := by decide +kernel
theorem m_m160 : m_ckm 160 = true := by decide +kernel
set_option maxRecDepth 100000 in
theorem m_w160 : lw_tbl[1109]? = some (.code m_y160 prog_11_method_51_code 4 (some .int)) := rfl
theorem m_c161 : m_ckt 161 m_t161 m_t161 = true := by decide +kernel
theorem m_m161 : m_ckm 161 = true := by decide +kernel
set_option maxRecDepth 100000 in
theorem m_w161 : lw_tbl[997]? = some (.code m_y161 prog_11_method_52_code 2 (some .int)) := rfl
theorem m_c162 : m_ckt 162 m_t162 m_t162 = true := by decide +kernel
theorem m_m162 : m_ckm 162 = true := by decide +kernel
set_option maxRecDepth 100000 in
theorem m_w162 : lw_tbl[1049]? = some (.code m_y162 prog_11_method_53_code 2 (some .int)) := rfl
theorem m_c163 : m_ckt 163 m_t163 m_t163 = true := by decide +kernel
theorem m_m163 : m_ckm 163 = true := by decide +kernel
set_option maxRecDepth 100000 in
theorem m_w163 : lw_tbl[1097]? = some (.code m_y163 prog_11_method_54_code 3 (some .int)) := rfl
theorem m_c164 : m_ckt 164 m_t164 m_t164 = true := by decide +kernel
theorem m_m164 : m_ckm 164 = true := by decide +kernel
set_option maxRecDepth 100000 in
theorem m_w164 : lw_tbl[993]? = some (.code m_y164 prog_11_method_55_code 10 (some .int)) := rfl
theorem m_c165 : m_ckt 165 m_t165 m_t165 = true := by decide +kernel
theorem m_m165 : m_ckm 165 = true := by decide +kernel
set_option maxRecDepth 100000 in
theorem m_w165 : lw_tbl[1053]? = some (.code m_y165 prog_11_method_56_code 5 (some .int)) := rfl
theorem m_c166 : m_ckt 166 m_t166 m_t166 = true := by decide +kernel
theorem m_m166 : m_ckm 166 = true := by decide +kernel
set_option maxRecDepth 100000 in
theorem m_w166 : lw_tbl[1081]? = some (.code m_y166 prog_11_method_57_code 6 (some .int)) := rfl
theorem m_c167 : m_ckt 167 m_t167 m_t167 = true := by decide +kernel
theorem m_m167 : m_ckm 167 = true := by decide +kernel
set_option maxRecDepth 100000 in
theorem m_w167 : lw_tbl[1093]? = some (.code m_y167 prog_11_method_58_code 8 (some .int)) := rfl
theorem m_c168 : m_ckt 168 m_t168 m_t168 = true := by decide +kernel
theorem m_m168 : m_ckm 168 = true := by decide +kernel
set_option maxRecDepth 100000 in
theorem m_w168 : lw_tbl[985]? = some (.code m_y168 prog_11_method_59_code 3 (some .boolean)) := rfl
theorem m_c169 : m_ckt 169 m_t169 m_t169 = true := by decide +kernel
theorem m_m169 : m_ckm 169 = true := by decide +kernel
set_option maxRecDepth 100000 in
theorem m_w169 : lw_tbl[989]? = some (.code m_y169 prog_11_method_60_code 3 (some .int)) := rfl
theorem m_c170 : m_ckt 170 m_t170 m_t170 = true := by decide +kernel
theorem m_m170 : m_ckm 170 = true := by decide +kernel
set_option maxRecDepth 100000 in
theorem m_w170 : lw_tbl[981]? = some (.code m_y170 prog_11_method_61_code 2 (some .int)) := rfl
theorem m_c171 : m_ckt 171 m_t171 m_t171 = true := by decide +kernel
theorem m_m171 : m_ckm 171 = true := by decide +kernel
set_option maxRecDepth 100000 in
theorem m_w171 : lw_tbl[1121]? = some (.code m_y171 prog_11_method_62_code 8 (some .int)) := rfl
theorem m_c172 : m_ckt 172 m_t172 m_t172 = true := by decide +kernel
theorem m_m172 : m_ckm 172 = true := by decide +kernel
set_option maxRecDepth 100000 in
theorem m_w172 : lw_tbl[1129]? = some (.code m_y172 prog_11_method_63_code 4 none) := rfl
theorem m_c173 : m_ckt 173 m_t173 m_t173 = true := by decide +kernel
theorem m_m173 : m_ckm 173 = true := by decide +kernel
set_option maxRecDepth 100000 in
theorem m_w173 : lw_tbl[1148]? = some (.code m_y173 prog_11_method_64_code 2 (some .boolean)) := rfl
theorem m_c174 : m_ckt 174 m_t174 m_t174 = true := by decide +kernel
theorem m_m174 : m_ckm 174 = true := by decide +kernel
set_option maxRecDepth 100000 in
theorem m_w174 : lw_tbl[1151]? = some (.code m_y174 prog_11_method_65_code 6 (some .int)) := rfl
theorem m_c175 : m_ckt 175 m_t175 m_t175 = true := by decide +kernel
theorem m_m175 : m_ckm 175 = true := by decide +kernel
set_option maxRecDepth 100000 in
theorem m_w175 : lw_tbl[1145]? = some (.code m_y175 prog_11_method_66_code 4 (some .boolean)) := rfl
theorem m_c176 : m_ckt 176 m_t176 m_t176 = true := by decide +kernel
theorem m_m176 : m_ckm 176 = true := by decide +kernel
set_option maxRecDepth 100000 in
theorem m_w176 : lw_tbl[1141]? = some (.code m_y176 prog_11_method_67_code 3 (some .boolean)) := rfl
theorem m_c177 : m_ckt 177 m_t177 m_t177 = true := by decide +kernel
theorem m_m177 : m_ckm 177 = true := by decide +kernel
set_option maxRecDepth 100000 in
theorem m_w177 : lw_tbl[1133]? = some (.code m_y177 prog_11_method_68_code 3 none) := rfl
theorem m_c178 : m_ckt 178 m_t178 m_t178 = true := by decide +kernel
theorem m_m178 : m_ckm 178 = true := by decide +kernel
set_option maxRecDepth 100000 in
theorem m_w178 : lw_tbl[1155]? = some (.code m_y178 prog_11_method_69_code 6 none) := rfl
theorem m_c179 : m_ckt 179 m_t179 m_t179 = true := by decide +kernel
theorem m_m179 : m_ckm 179 = true := by decide +kernel
set_option maxRecDepth 100000 in
theorem m_w179 : lw_tbl[1125]? = some (.code m_y179 prog_11_method_70_code 8 (some .int)) := rfl
theorem m_c180 : m_ckt 180 m_t180 m_t180 = true := by decide +kernel
theorem m_m180 : m_ckm 180 = true := by decide +kernel
set_option maxRecDepth 100000 in
theorem m_w180 : lw_tbl[1137]? = some (.code m_y180 prog_11_method_71_code 4 none) := rfl
theorem m_c181 : m_ckt 181 m_t181 m_t181 = true := by decide +kernel
theorem m_m181 : m_ckm 181 = true := by decide +kernel
set_option maxRecDepth 100000 in
theorem m_w181 : lw_tbl[1159]? = some (.code m_y181 prog_11_method_72_code 3 (some .int)) := rfl
theorem m_c182 : m_ckt 182 m_t182 m_t182 = true := by decide +kernel
theorem m_m182 : m_ckm 182 = true := by decide +kernel
set_option maxRecDepth 100000 in
theorem m_w182 : lw_tbl[1163]? = some (.code m_y182 prog_11_method_73_code 4 (some .int)) := rfl
theorem m_c183 : m_ckt 183 m_t183 m_t183 = true := by decide +kernel
theorem m_m183 : m_ckm 183 = true := by decide +kernel
set_option maxRecDepth 100000 in
theorem m_w183 : lw_tbl[1167]? = some (.code m_y183 prog_11_method_74_code 4 (some .int)) := rfl
theorem m_c184 : m_ckt 184 m_t184 m_t184 = true := by decide +kernel
theorem m_m184 : m_ckm 184 = true := by decide +kernel
set_option maxRecDepth 100000 in
theorem m_w184 : lw_tbl[1171]? = some (.code m_y184 prog_11_method_75_code 2 (some .int)) := rfl
theorem m_c185 : m_ckt 185 m_t185 m_t185 = true := by decide +kernel
theorem m_m185 : m_ckm 185 = true := by decide +kernel
set_option maxRecDepth 100000 in
theorem m_w185 : lw_tbl[1175]? = some (.code m_y185 prog_11_method_76_code 3 (some .int)) := rfl
theorem m_c186 : m_ckt 186 m_t186 m_t186 = true := by decide +kernel
theorem m_m186 : m_ckm 186 = true := by decide +kernel
set_option maxRecDepth 100000 in
theorem m_w186 : lw_tbl[1179]? = some (.code m_y186 prog_11_method_77_code 5 (some .int)) := rfl
theorem m_c187 : m_ckt 187 m_t187 m_t187 = true := by decide +kernel
theorem m_m187 : m_ckm 187 = true := by decide +kernel
set_option maxRecDepth 100000 in
theorem m_w187 : lw_tbl[1183]? = some (.code m_y187 prog_11_method_78_code 5 (some .int)) := rfl
theorem m_c188 : m_ckt 188 m_t188 m_t188 = true := by decide +kernel
theorem m_m188 : m_ckm 188 = true := by decide +kernel
set_option maxRecDepth 100000 in
theorem m_w188 : lw_tbl[1191]? = some (.code m_y188 prog_11_method_79_code 3 none) := rfl
theorem m_c189 : m_ckt 189 m_t189 m_t189 = true := by decide +kernel
theorem m_m189 : m_ckm 189 = true := by decide +kernel
set_option maxRecDepth 100000 in
theorem m_w189 : lw_tbl[1195]? = some (.code m_y189 prog_11_method_80_code 5 none) := rfl
theorem m_c190 : m_ckt 190 m_t190 m_t190 = true := by decide +kernel
theorem m_m190 : m_ckm 190 = true := by decide +kernel
set_option maxRecDepth 100000 in
theorem m_w190 : lw_tbl[1187]? = some (.code m_y190 prog_11_method_81_code 2 (some .int)) := rfl
theorem m_c191 : m_ckt 191 m_t191 m_t191 = true := by decide +kernel
theorem m_m191 : m_ckm 191 = true := by decide +kernel
set_option maxRecDepth 100000 in
theorem m_w191 : lw_tbl[1199]? = some (.code m_y191 prog_11_method_82_code 2 (some .int)) := rfl
theorem m_c192 : m_ckt 192 m_t192 m_t192 = true := by decide +kernel
theorem m_m192 : m_ckm 192 = true := by decide +kernel
set_option maxRecDepth 100000 in
theorem m_w192 : lw_tbl[1203]? = some (.code m_y192 prog_11_method_83_code 5 (some .long)) := rfl
theorem m_c193 : m_ckt 193 m_t193 m_t193 = true := by decide +kernel
theorem m_c194 : m_ckt 194 m_t194 m_t194 = true := by decide +kernel
theorem m_m194 : m_ckm 194 = true := by decide +kernel
set_option maxRecDepth 100000 in
theorem m_w194 : lw_tbl[185]? = some (.code m_y194 prog_14_method_30_code 3 none) := rfl
theorem m_c195 : m_ckt 195 m_t195 m_t195 = true := by decide +kernel
theorem m_m195 : m_ckm 195 = true := by decide +kernel
set_option maxRecDepth 100000 in
theorem m_w195 : lw_tbl[331]? = some (.code m_y195 prog_14_method_102_code 6 none) := rfl
theorem m_c196 : m_ckt 196 m_t196 m_t196 = true := by decide +kernel
theorem m_m196 : m_ckm 196 = true := by decide +kernel
set_option maxRecDepth 100000 in
theorem m_w196 : lw_tbl[137]? = some (.code m_y196 prog_14_method_103_code 4 none) := rfl
theorem m_c197 : m_ckt 197 m_t197 m_t197 = true := by decide +kernel
theorem m_m197 : m_ckm 197 = true := by decide +kernel
set_option maxRecDepth 100000 in
theorem m_w197 : lw_tbl[182]? = some (.code m_y197 prog_14_method_104_code 5 none) := rfl
theorem m_c198 : m_ckt 198 m_t198 m_t198 = true := by decide +kernel
