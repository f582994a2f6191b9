theorem f_Tl_36 : FL R_Tl 36 1 0 false := ⟨R_Tl, F_Tl, 10, t_Tl, cl_Tl, by decide, (tbG_of (tm_1 (ta 35 rfl)) rfl), rfl, fun h => absurd h (by decide)⟩
theorem f_Rd_94 : FL R_Rd 94 1 0 false := ⟨R_Tl, F_Tl, 10, t_Tl, cl_Tl, by decide, (tbG_of (tm_1 (ta 36 rfl)) rfl), rfl, fun h => absurd h (by decide)⟩
theorem f_St_93 : FL R_St 93 1 0 false := ⟨R_Tl, F_Tl, 10, t_Tl, cl_Tl, by decide, (tbG_of (tm_1 (ta 37 rfl)) rfl), rfl, fun h => absurd h (by decide)⟩
theorem f_Fo_106 : FL R_Fo 106 1 0 false := ⟨R_Tl, F_Tl, 10, t_Tl, cl_Tl, by decide, (tbG_of (tm_1 (ta 38 rfl)) rfl), rfl, fun h => absurd h (by decide)⟩
theorem f_Pn_278 : FL R_Pn 278 1 0 false := ⟨R_Tl, F_Tl, 10, t_Tl, cl_Tl, by decide, (tbG_of (tm_1 (ta 39 rfl)) rfl), rfl, fun h => absurd h (by decide)⟩
theorem f_Tl_40 : FL R_Tl 40 1 1 false := ⟨R_Tl, F_Tl, 10, t_Tl, cl_Tl, by decide, (tbG_of (tm_1 (ta 40 rfl)) rfl), rfl, fun h => absurd h (by decide)⟩
theorem f_St_67 : FL R_St 67 1 1 false := ⟨R_Tl, F_Tl, 10, t_Tl, cl_Tl, by decide, (tbG_of (tm_1 (ta 41 rfl)) rfl), rfl, fun h => absurd h (by decide)⟩
theorem f_Fo_77 : FL R_Fo 77 1 1 false := ⟨R_Tl, F_Tl, 10, t_Tl, cl_Tl, by decide, (tbG_of (tm_1 (ta 42 rfl)) rfl), rfl, fun h => absurd h (by decide)⟩
theorem f_Rd_104 : FL R_Rd 104 1 1 false := ⟨R_Tl, F_Tl, 10, t_Tl, cl_Tl, by decide, (tbG_of (tm_1 (ta 43 rfl)) rfl), rfl, fun h => absurd h (by decide)⟩
theorem f_Pn_281 : FL R_Pn 281 1 1 false := ⟨R_Tl, F_Tl, 10, t_Tl, cl_Tl, by decide, (tbG_of (tm_1 (ta 44 rfl)) rfl), rfl, fun h => absurd h (by decide)⟩
theorem f_Tl_9 : FL R_Tl 9 1 2 true := ⟨R_Tl, F_Tl, 10, t_Tl, cl_Tl, by decide, (tbG_of (tm_1 (ta 45 rfl)) rfl), rfl, fun _ => rfl⟩
theorem f_St_78 : FG R_St 78 1 2 := ⟨R_Tl, F_Tl, 10, t_Tl, cl_Tl, by decide, (tbG_of (tm_1 (ta 46 rfl)) rfl)⟩
theorem f_Pn_109 : FG R_Pn 109 1 2 := ⟨R_Tl, F_Tl, 10, t_Tl, cl_Tl, by decide, (tbG_of (tm_1 (ta 47 rfl)) rfl)⟩
theorem f_Tl_15 : FL R_Tl 15 1 3 true := ⟨R_Tl, F_Tl, 10, t_Tl, cl_Tl, by decide, (tbG_of (tm_1 (ta 48 rfl)) rfl), rfl, fun _ => rfl⟩
theorem f_St_31 : FG R_St 31 1 3 := ⟨R_Tl, F_Tl, 10, t_Tl, cl_Tl, by decide, (tbG_of (tm_1 (ta 49 rfl)) rfl)⟩
theorem f_Tl_18 : FL R_Tl 18 1 4 true := ⟨R_Tl, F_Tl, 10, t_Tl, cl_Tl, by decide, (tbG_of (tm_1 (ta 50 rfl)) rfl), rfl, fun _ => rfl⟩
theorem f_Pn_116 : FG R_Pn 116 1 4 := ⟨R_Tl, F_Tl, 10, t_Tl, cl_Tl, by decide, (tbG_of (tm_1 (ta 51 rfl)) rfl)⟩
theorem f_St_109 : FG R_St 109 1 4 := ⟨R_Tl, F_Tl, 10, t_Tl, cl_Tl, by decide, (tbG_of (tm_1 (ta 52 rfl)) rfl)⟩
theorem f_Tl_21 : FL R_Tl 21 1 5 true := ⟨R_Tl, F_Tl, 10, t_Tl, cl_Tl, by decide, (tbG_of (tm_1 (ta 53 rfl)) rfl), rfl, fun _ => rfl⟩
theorem f_St_49 : FG R_St 49 1 5 := ⟨R_Tl, F_Tl, 10, t_Tl, cl_Tl, by decide, (tbG_of (tm_1 (ta 54 rfl)) rfl)⟩
theorem f_Pn_130 : FG R_Pn 130 1 5 := ⟨R_Tl, F_Tl, 10, t_Tl, cl_Tl, by decide, (tbG_of (tm_1 (ta 55 rfl)) rfl)⟩
theorem f_Tl_24 : FL R_Tl 24 1 6 true := ⟨R_Tl, F_Tl, 10, t_Tl, cl_Tl, by decide, (tbG_of (tm_1 (ta 56 rfl)) rfl), rfl, fun _ => rfl⟩
theorem f_St_40 : FG R_St 40 1 6 := ⟨R_Tl, F_Tl, 10, t_Tl, cl_Tl, by decide, (tbG_of (tm_1 (ta 57 rfl)) rfl)⟩
theorem f_Tl_27 : FL R_Tl 27 1 7 true := ⟨R_Tl, F_Tl, 10, t_Tl, cl_Tl, by decide, (tbG_of (tm_1 (ta 58 rfl)) rfl), rfl, fun _ => rfl⟩
theorem f_St_58 : FG R_St 58 1 7 := ⟨R_Tl, F_Tl, 10, t_Tl, cl_Tl, by decide, (tbG_of (tm_1 (ta 59 rfl)) rfl)⟩
theorem f_Pn_139 : FG R_Pn 139 1 7 := ⟨R_Tl, F_Tl, 10, t_Tl, cl_Tl, by decide, (tbG_of (tm_1 (ta 60 rfl)) rfl)⟩
theorem f_Tl_30 : FL R_Tl 30 1 8 true := ⟨R_Tl, F_Tl, 10, t_Tl, cl_Tl, by decide, (tbG_of (tm_1 (ta 61 rfl)) rfl), rfl, fun _ => rfl⟩
theorem f_St_41 : FG R_St 41 1 8 := ⟨R_Tl, F_Tl, 10, t_Tl, cl_Tl, by decide, (tbG_of (tm_1 (ta 62 rfl)) rfl)⟩
theorem f_Tl_33 : FL R_Tl 33 1 9 true := ⟨R_Tl, F_Tl, 10, t_Tl, cl_Tl, by decide, (tbG_of (tm_1 (ta 63 rfl)) rfl), rfl, fun _ => rfl⟩
theorem f_Rd_11 : FL R_Rd 11 2 0 true := ⟨R_Rd, F_Rd, 6, t_Rd, cl_Rd, by decide, (tbG_of (tm_1 (ta 92 rfl)) rfl), rfl, fun _ => rfl⟩
theorem f_Rd_15 : FL R_Rd 15 2 1 false := ⟨R_Rd, F_Rd, 6, t_Rd, cl_Rd, by decide, (tbG_of (tm_1 (ta 93 rfl)) rfl), rfl, fun h => absurd h (by decide)⟩
theorem f_Pn_79 : FL R_Pn 79 2 1 false := ⟨R_Rd, F_Rd, 6, t_Rd, cl_Rd, by decide, (tbG_of (tm_1 (ta 94 rfl)) rfl), rfl, fun h => absurd h (by decide)⟩
theorem f_Rd_19 : FL R_Rd 19 2 2 false := ⟨R_Rd, F_Rd, 6, t_Rd, cl_Rd, by decide, (tbG_of (tm_1 (ta 95 rfl)) rfl), rfl, fun h => absurd h (by decide)⟩
theorem f_Pn_93 : FL R_Pn 93 2 2 false := ⟨R_Rd, F_Rd, 6, t_Rd, cl_Rd, by decide, (tbG_of (tm_1 (ta 96 rfl)) rfl), rfl, fun h => absurd h (by decide)⟩
theorem f_Rd_35 : FL R_Rd 35 2 3 false := ⟨R_Rd, F_Rd, 6, t_Rd, cl_Rd, by decide, (tbG_of (tm_1 (ta 97 rfl)) rfl), rfl, fun h => absurd h (by decide)⟩
theorem f_Rd_32 : FL R_Rd 32 2 4 false := ⟨R_Rd, F_Rd, 6, t_Rd, cl_Rd, by decide, (tbG_of (tm_1 (ta 98 rfl)) rfl), rfl, fun h => absurd h (by decide)⟩
theorem f_Rd_22 : FL R_Rd 22 2 5 false := ⟨R_Rd, F_Rd, 6, t_Rd, cl_Rd, by decide, (tbG_of (tm_1 (ta 99 rfl)) rfl), rfl, fun h => absurd h (by decide)⟩
theorem f_St_27 : FL R_St 27 3 0 true := ⟨R_St, F_St, 8, t_St, cl_St, by decide, (tbG_of (tm_1 (ta 119 rfl)) rfl), rfl, fun _ => rfl⟩
theorem f_St_9 : FL R_St 9 3 1 true := ⟨R_St, F_St, 8, t_St, cl_St, by decide, (tbG_of (tm_1 (ta 120 rfl)) rfl), rfl, fun _ => rfl⟩
theorem f_Fo_45 : FG R_Fo 45 3 1 := ⟨R_St, F_St, 8, t_St, cl_St, by decide, (tbG_of (tm_1 (ta 121 rfl)) rfl)⟩
theorem f_Pn_113 : FG R_Pn 113 3 1 := ⟨R_St, F_St, 8, t_St, cl_St, by decide, (tbG_of (tm_1 (ta 122 rfl)) rfl)⟩
theorem f_St_15 : FL R_St 15 3 2 true := ⟨R_St, F_St, 8, t_St, cl_St, by decide, (tbG_of (tm_1 (ta 123 rfl)) rfl), rfl, fun _ => rfl⟩
theorem f_Pn_133 : FG R_Pn 133 3 2 := ⟨R_St, F_St, 8, t_St, cl_St, by decide, (tbG_of (tm_1 (ta 124 rfl)) rfl)⟩
theorem f_St_18 : FL R_St 18 3 3 true := ⟨R_St, F_St, 8, t_St, cl_St, by decide, (tbG_of (tm_1 (ta 125 rfl)) rfl), rfl, fun _ => rfl⟩
theorem f_Pn_136 : FG R_Pn 136 3 3 := ⟨R_St, F_St, 8, t_St, cl_St, by decide, (tbG_of (tm_1 (ta 126 rfl)) rfl)⟩
theorem f_St_21 : FL R_St 21 3 4 true := ⟨R_St, F_St, 8, t_St, cl_St, by decide, (tbG_of (tm_1 (ta 127 rfl)) rfl), rfl, fun _ => rfl⟩
theorem f_Fo_42 : FG R_Fo 42 3 4 := ⟨R_St, F_St, 8, t_St, cl_St, by decide, (tbG_of (tm_1 (ta 128 rfl)) rfl)⟩
theorem f_Pn_142 : FG R_Pn 142 3 4 := ⟨R_St, F_St, 8, t_St, cl_St, by decide, (tbG_of (tm_1 (ta 129 rfl)) rfl)⟩
theorem f_St_24 : FL R_St 24 3 5 true := ⟨R_St, F_St, 8, t_St, cl_St, by decide, (tbG_of (tm_1 (ta 130 rfl)) rfl), rfl, fun _ => rfl⟩
theorem f_Fo_67 : FG R_Fo 67 3 5 := ⟨R_St, F_St, 8, t_St, cl_St, by decide, (tbG_of (tm_1 (ta 131 rfl)) rfl)⟩
theorem f_St_42 : FL R_St 42 3 6 false := ⟨R_St, F_St, 8, t_St, cl_St, by decide, (tbG_of (tm_1 (ta 132 rfl)) rfl), rfl, fun h => absurd h (by decide)⟩
theorem f_Pn_160 : FL R_Pn 160 3 6 false := ⟨R_St, F_St, 8, t_St, cl_St, by decide, (tbG_of (tm_1 (ta 133 rfl)) rfl), rfl, fun h => absurd h (by decide)⟩
theorem f_St_46 : FL R_St 46 3 7 false := ⟨R_St, F_St, 8, t_St, cl_St, by decide, (tbG_of (tm_1 (ta 134 rfl)) rfl), rfl, fun h => absurd h (by decide)⟩
theorem f_Fo_82 : FL R_Fo 82 3 7 false := ⟨R_St, F_St, 8, t_St, cl_St, by decide, (tbG_of (tm_1 (ta 135 rfl)) rfl), rfl, fun h => absurd h (by decide)⟩
theorem f_Pn_145 : FL R_Pn 145 3 7 false := ⟨R_St, F_St, 8, t_St, cl_St, by decide, (tbG_of (tm_1 (ta 136 rfl)) rfl), rfl, fun h => absurd h (by decide)⟩
theorem f_Ps_11 : FL R_Ps 11 4 0 true := ⟨R_Ps, F_Ps, 3, t_Ps, cl_Ps, by decide, (tbG_of (tm_1 (ta 163 rfl)) rfl), rfl, fun _ => rfl⟩
theorem f_Ps_18 : FL R_Ps 18 4 1 false := ⟨R_Ps, F_Ps, 3, t_Ps, cl_Ps, by decide, (tbG_of (tm_1 (ta 164 rfl)) rfl), rfl, fun h => absurd h (by decide)⟩
theorem f_Ps_26 : FL R_Ps 26 4 2 false := ⟨R_Ps, F_Ps, 3, t_Ps, cl_Ps, by decide, (tbG_of (tm_1 (ta 165 rfl)) rfl), rfl, fun h => absurd h (by decide)⟩
theorem f_Pn_99 : FL R_Pn 99 4 2 false := ⟨R_Ps, F_Ps, 3, t_Ps, cl_Ps, by decide, (tbG_of (tm_1 (ta 166 rfl)) rfl), rfl, fun h => absurd h (by decide)⟩
theorem f_Fo_21 : FL R_Fo 21 5 0 true := ⟨R_Fo, F_Fo, 7, t_Fo, cl_Fo, by decide, (tbG_of (tm_1 (ta 182 rfl)) rfl), rfl, fun _ => rfl⟩
theorem f_Fo_30 : FL R_Fo 30 5 1 true := ⟨R_Fo, F_Fo, 7, t_Fo, cl_Fo, by decide, (tbG_of (tm_1 (ta 183 rfl)) rfl), rfl, fun _ => rfl⟩
theorem f_Fo_11 : FL R_Fo 11 5 2 true := ⟨R_Fo, F_Fo, 7, t_Fo, cl_Fo, by decide, (tbG_of (tm_1 (ta 184 rfl)) rfl), rfl, fun _ => rfl⟩
theorem f_Fo_15 : FL R_Fo 15 5 3 true := ⟨R_Fo, F_Fo, 7, t_Fo, cl_Fo, by decide, (tbG_of (tm_1 (ta 185 rfl)) rfl), rfl, fun _ => rfl⟩
theorem f_Fo_18 : FL R_Fo 18 5 4 true := ⟨R_Fo, F_Fo, 7, t_Fo, cl_Fo, by decide, (tbG_of (tm_1 (ta 186 rfl)) rfl), rfl, fun _ => rfl⟩
theorem f_Fo_56 : FL R_Fo 56 5 5 false := ⟨R_Fo, F_Fo, 7, t_Fo, cl_Fo, by decide, (tbG_of (tm_1 (ta 187 rfl)) rfl), rfl, fun h => absurd h (by decide)⟩
theorem f_Fo_52 : FL R_Fo 52 5 6 false := ⟨R_Fo, F_Fo, 7, t_Fo, cl_Fo, by decide, (tbG_of (tm_1 (ta 188 rfl)) rfl), rfl, fun h => absurd h (by decide)⟩
theorem f_Sg_11 : FL R_Sg 11 6 0 true := ⟨R_Sg, F_Sg, 4, t_Sg, cl_Sg, by decide, (tbG_of (tm_1 (ta 211 rfl)) rfl), rfl, fun _ => rfl⟩
theorem f_Sg_15 : FL R_Sg 15 6 1 true := ⟨R_Sg, F_Sg, 4, t_Sg, cl_Sg, by decide, (tbG_of (tm_1 (ta 212 rfl)) rfl), rfl, fun _ => rfl⟩
theorem f_Sg_18 : FL R_Sg 18 6 2 true := ⟨R_Sg, F_Sg, 4, t_Sg, cl_Sg, by decide, (tbG_of (tm_1 (ta 213 rfl)) rfl), rfl, fun _ => rfl⟩
theorem f_Sg_21 : FL R_Sg 21 6 3 false := ⟨R_Sg, F_Sg, 4, t_Sg, cl_Sg, by decide, (tbG_of (tm_1 (ta 214 rfl)) rfl), rfl, fun h => absurd h (by decide)⟩
theorem f_Pn_102 : FL R_Pn 102 6 3 false := ⟨R_Sg, F_Sg, 4, t_Sg, cl_Sg, by decide, (tbG_of (tm_1 (ta 215 rfl)) rfl), rfl, fun h => absurd h (by decide)⟩
theorem f_Sh_13 : FL R_Sh 13 7 0 true := ⟨R_Sh, F_Sh, 1, t_Sh, cl_Sh, by decide, (tbG_of (tm_1 (ta 233 rfl)) rfl), rfl, fun _ => rfl⟩
theorem f_Pn_233 : FG R_Pn 233 7 0 := ⟨R_Sh, F_Sh, 1, t_Sh, cl_Sh, by decide, (tbG_of (tm_1 (ta 234 rfl)) rfl)⟩
theorem f_Pn_10 : FL R_Pn 10 0 0 true := ⟨R_Pn, F_Pn, 10, t_Pn, cl_Pn, by decide, (tbG_of (tm_1 (ta 238 rfl)) rfl), rfl, fun _ => rfl⟩
theorem f_Pn_16 : FL R_Pn 16 0 1 true := ⟨R_Pn, F_Pn, 10, t_Pn, cl_Pn, by decide, (tbG_of (tm_1 (ta 239 rfl)) rfl), rfl, fun _ => rfl⟩
theorem f_Pn_22 : FL R_Pn 22 0 2 true := ⟨R_Pn, F_Pn, 10, t_Pn, cl_Pn, by decide, (tbG_of (tm_2 (ta 0 rfl)) rfl), rfl, fun _ => rfl⟩
theorem f_Pn_31 : FL R_Pn 31 0 3 true := ⟨R_Pn, F_Pn, 10, t_Pn, cl_Pn, by decide, (tbG_of (tm_2 (ta 1 rfl)) rfl), rfl, fun _ => rfl⟩
theorem f_Pn_38 : FL R_Pn 38 0 4 true := ⟨R_Pn, F_Pn, 10, t_Pn, cl_Pn, by decide, (tbG_of (tm_2 (ta 2 rfl)) rfl), rfl, fun _ => rfl⟩
theorem f_Pn_42 : FL R_Pn 42 0 5 true := ⟨R_Pn, F_Pn, 10, t_Pn, cl_Pn, by decide, (tbG_of (tm_2 (ta 3 rfl)) rfl), rfl, fun _ => rfl⟩
theorem f_Pn_46 : FL R_Pn 46 0 6 true := ⟨R_Pn, F_Pn, 10, t_Pn, cl_Pn, by decide, (tbG_of (tm_2 (ta 4 rfl)) rfl), rfl, fun _ => rfl⟩
theorem f_Pn_53 : FL R_Pn 53 0 7 true := ⟨R_Pn, F_Pn, 10, t_Pn, cl_Pn, by decide, (tbG_of (tm_2 (ta 5 rfl)) rfl), rfl, fun _ => rfl⟩
theorem f_Pn_60 : FL R_Pn 60 0 8 true := ⟨R_Pn, F_Pn, 10, t_Pn, cl_Pn, by decide, (tbG_of (tm_2 (ta 6 rfl)) rfl), rfl, fun _ => rfl⟩
theorem f_Pn_67 : FL R_Pn 67 0 9 true := ⟨R_Pn, F_Pn, 10, t_Pn, cl_Pn, by decide, (tbG_of (tm_2 (ta 7 rfl)) rfl), rfl, fun _ => rfl⟩
theorem f_Rg_15 : FL R_Rg 15 8 0 true := ⟨R_Rg, F_Rg, 1, t_Rg, cl_Rg, by decide, (tbG_of (tm_4 (ta 53 rfl)) rfl), rfl, fun _ => rfl⟩
theorem f_Sh_25 : FG R_Sh 25 8 0 := ⟨R_Rg, F_Rg, 1, t_Rg, cl_Rg, by decide, (tbG_of (tm_4 (ta 54 rfl)) rfl)⟩
theorem f_Pn_244 : FG R_Pn 244 8 0 := ⟨R_Rg, F_Rg, 1, t_Rg, cl_Rg, by decide, (tbG_of (tm_4 (ta 55 rfl)) rfl)⟩
theorem f_Pg_13 : FL R_Pg 13 9 0 true := ⟨R_Pg, F_Pg, 2, t_Pg, cl_Pg, by decide, (tbG_of (tm_4 (ta 75 rfl)) rfl), rfl, fun _ => rfl⟩
theorem f_Sh_29 : FG R_Sh 29 9 0 := ⟨R_Pg, F_Pg, 2, t_Pg, cl_Pg, by decide, (tbG_of (tm_4 (ta 76 rfl)) rfl)⟩
theorem f_Pn_262 : FG R_Pn 262 9 0 := ⟨R_Pg, F_Pg, 2, t_Pg, cl_Pg, by decide, (tbG_of (tm_4 (ta 77 rfl)) rfl)⟩
theorem f_Pg_19 : FL R_Pg 19 9 1 true := ⟨R_Pg, F_Pg, 2, t_Pg, cl_Pg, by decide, (tbG_of (tm_4 (ta 78 rfl)) rfl), rfl, fun _ => rfl⟩
theorem f_Pn_265 : FG R_Pn 265 9 1 := ⟨R_Pg, F_Pg, 2, t_Pg, cl_Pg, by decide, (tbG_of (tm_4 (ta 79 rfl)) rfl)⟩
theorem f_Md_7 : FL R_Md 7 10 0 true := ⟨R_Md, F_Md, 45, t_Md, cl_Md, by decide, (tbG_of (tm_4 (ta 167 rfl)) rfl), rfl, fun _ => rfl⟩
theorem f_Md_226 : FL R_Md 226 10 1 false := ⟨R_Md, F_Md, 45, t_Md, cl_Md, by decide, (tbG_of (tm_4 (ta 168 rfl)) rfl), rfl, fun h => absurd h (by decide)⟩
theorem f_Md_13 : FL R_Md 13 10 2 true := ⟨R_Md, F_Md, 45, t_Md, cl_Md, by decide, (tbG_of (tm_4 (ta 169 rfl)) rfl), rfl, fun _ => rfl⟩
theorem f_Md_107 : FL R_Md 107 10 3 false := ⟨R_Md, F_Md, 45, t_Md, cl_Md, by decide, (tbG_of (tm_4 (ta 170 rfl)) rfl), rfl, fun h => absurd h (by decide)⟩
theorem f_Md_17 : FL R_Md 17 10 4 true := ⟨R_Md, F_Md, 45, t_Md, cl_Md, by decide, (tbG_of (tm_4 (ta 171 rfl)) rfl), rfl, fun _ => rfl⟩
theorem f_Md_20 : FL R_Md 20 10 5 true := ⟨R_Md, F_Md, 45, t_Md, cl_Md, by decide, (tbG_of (tm_4 (ta 172 rfl)) rfl), rfl, fun _ => rfl⟩
theorem f_Md_23 : FL R_Md 23 10 6 true := ⟨R_Md, F_Md, 45, t_Md, cl_Md, by decide, (tbG_of (tm_4 (ta 173 rfl)) rfl), rfl, fun _ => rfl⟩
theorem f_Md_115 : FL R_Md 115 10 7 false := ⟨R_Md, F_Md, 45, t_Md, cl_Md, by decide, (tbG_of (tm_4 (ta 174 rfl)) rfl), rfl, fun h => absurd h (by decide)⟩
theorem f_Md_26 : FL R_Md 26 10 8 true := ⟨R_Md, F_Md, 45, t_Md, cl_Md, by decide, (tbG_of (tm_4 (ta 175 rfl)) rfl), rfl, fun _ => rfl⟩
theorem f_Md_29 : FL R_Md 29 10 9 true := ⟨R_Md, F_Md, 45, t_Md, cl_Md, by decide, (tbG_of (tm_4 (ta 176 rfl)) rfl), rfl, fun _ => rfl⟩
theorem f_Md_32 : FL R_Md 32 10 10 true := ⟨R_Md, F_Md, 45, t_Md, cl_Md, by decide, (tbG_of (tm_4 (ta 177 rfl)) rfl), rfl, fun _ => rfl⟩
theorem f_Md_35 : FL R_Md 35 10 11 true := ⟨R_Md, F_Md, 45, t_Md, cl_Md, by decide, (tbG_of (tm_4 (ta 178 rfl)) rfl), rfl, fun _ => rfl⟩
theorem f_Md_38 : FL R_Md 38 10 12 true := ⟨R_Md, F_Md, 45, t_Md, cl_Md, by decide, (tbG_of (tm_4 (ta 179 rfl)) rfl), rfl, fun _ => rfl⟩
theorem f_Md_41 : FL R_Md 41 10 13 true := ⟨R_Md, F_Md, 45, t_Md, cl_Md, by decide, (tbG_of (tm_4 (ta 180 rfl)) rfl), rfl, fun _ => rfl⟩
theorem f_Md_120 : FL R_Md 120 10 14 false := ⟨R_Md, F_Md, 45, t_Md, cl_Md, by decide, (tbG_of (tm_4 (ta 181 rfl)) rfl), rfl, fun h => absurd h (by decide)⟩
theorem f_Md_131 : FL R_Md 131 10 15 false := ⟨R_Md, F_Md, 45, t_Md, cl_Md, by decide, (tbG_of (tm_4 (ta 182 rfl)) rfl), rfl, fun h => absurd h (by decide)⟩
theorem f_Md_134 : FL R_Md 134 10 16 false := ⟨R_Md, F_Md, 45, t_Md, cl_Md, by decide, (tbG_of (tm_4 (ta 183 rfl)) rfl), rfl, fun h => absurd h (by decide)⟩
theorem f_Md_137 : FL R_Md 137 10 17 false := ⟨R_Md, F_Md, 45, t_Md, cl_Md, by decide, (tbG_of (tm_4 (ta 184 rfl)) rfl), rfl, fun h => absurd h (by decide)⟩
theorem f_Md_140 : FL R_Md 140 10 18 false := ⟨R_Md, F_Md, 45, t_Md, cl_Md, by decide, (tbG_of (tm_4 (ta 185 rfl)) rfl), rfl, fun h => absurd h (by decide)⟩
theorem f_Md_176 : FL R_Md 176 10 19 false := ⟨R_Md, F_Md, 45, t_Md, cl_Md, by decide, (tbG_of (tm_4 (ta 186 rfl)) rfl), rfl, fun h => absurd h (by decide)⟩
theorem f_Md_44 : FL R_Md 44 10 20 true := ⟨R_Md, F_Md, 45, t_Md, cl_Md, by decide, (tbG_of (tm_4 (ta 187 rfl)) rfl), rfl, fun _ => rfl⟩
theorem f_Md_47 : FL R_Md 47 10 21 true := ⟨R_Md, F_Md, 45, t_Md, cl_Md, by decide, (tbG_of (tm_4 (ta 188 rfl)) rfl), rfl, fun _ => rfl⟩
theorem f_Md_50 : FL R_Md 50 10 22 true := ⟨R_Md, F_Md, 45, t_Md, cl_Md, by decide, (tbG_of (tm_4 (ta 189 rfl)) rfl), rfl, fun _ => rfl⟩
theorem f_Md_183 : FL R_Md 183 10 23 false := ⟨R_Md, F_Md, 45, t_Md, cl_Md, by decide, (tbG_of (tm_4 (ta 190 rfl)) rfl), rfl, fun h => absurd h (by decide)⟩
theorem f_Md_53 : FL R_Md 53 10 24 true := ⟨R_Md, F_Md, 45, t_Md, cl_Md, by decide, (tbG_of (tm_4 (ta 191 rfl)) rfl), rfl, fun _ => rfl⟩
theorem f_Md_56 : FL R_Md 56 10 25 true := ⟨R_Md, F_Md, 45, t_Md, cl_Md, by decide, (tbG_of (tm_4 (ta 192 rfl)) rfl), rfl, fun _ => rfl⟩
theorem f_Md_59 : FL R_Md 59 10 26 true := ⟨R_Md, F_Md, 45, t_Md, cl_Md, by decide, (tbG_of (tm_4 (ta 193 rfl)) rfl), rfl, fun _ => rfl⟩
theorem f_Md_62 : FL R_Md 62 10 27 true := ⟨R_Md, F_Md, 45, t_Md, cl_Md, by decide, (tbG_of (tm_4 (ta 194 rfl)) rfl), rfl, fun _ => rfl⟩
theorem f_Md_65 : FL R_Md 65 10 28 true := ⟨R_Md, F_Md, 45, t_Md, cl_Md, by decide, (tbG_of (tm_4 (ta 195 rfl)) rfl), rfl, fun _ => rfl⟩
theorem f_Md_210 : FL R_Md 210 10 29 false := ⟨R_Md, F_Md, 45, t_Md, cl_Md, by decide, (tbG_of (tm_4 (ta 196 rfl)) rfl), rfl, fun h => absurd h (by decide)⟩
theorem f_Md_150 : FL R_Md 150 10 30 false := ⟨R_Md, F_Md, 45, t_Md, cl_Md, by decide, (tbG_of (tm_4 (ta 197 rfl)) rfl), rfl, fun h => absurd h (by decide)⟩
theorem f_Md_68 : FL R_Md 68 10 31 true := ⟨R_Md, F_Md, 45, t_Md, cl_Md, by decide, (tbG_of (tm_4 (ta 198 rfl)) rfl), rfl, fun _ => rfl⟩
theorem f_Md_71 : FL R_Md 71 10 32 true := ⟨R_Md, F_Md, 45, t_Md, cl_Md, by decide, (tbG_of (tm_4 (ta 199 rfl)) rfl), rfl, fun _ => rfl⟩
theorem f_Md_74 : FL R_Md 74 10 33 true := ⟨R_Md, F_Md, 45, t_Md, cl_Md, by decide, (tbG_of (tm_4 (ta 200 rfl)) rfl), rfl, fun _ => rfl⟩
theorem f_Md_77 : FL R_Md 77 10 34 true := ⟨R_Md, F_Md, 45, t_Md, cl_Md, by decide, (tbG_of (tm_4 (ta 201 rfl)) rfl), rfl, fun _ => rfl⟩
theorem f_Md_80 : FL R_Md 80 10 35 true := ⟨R_Md, F_Md, 45, t_Md, cl_Md, by decide, (tbG_of (tm_4 (ta 202 rfl)) rfl), rfl, fun _ => rfl⟩
theorem f_Md_229 : FL R_Md 229 10 36 false := ⟨R_Md, F_Md, 45, t_Md, cl_Md, by decide, (tbG_of (tm_4 (ta 203 rfl)) rfl), rfl, fun h => absurd h (by decide)⟩
theorem f_Md_83 : FL R_Md 83 10 37 true := ⟨R_Md, F_Md, 45, t_Md, cl_Md, by decide, (tbG_of (tm_4 (ta 204 rfl)) rfl), rfl, fun _ => rfl⟩
theorem f_Md_86 : FL R_Md 86 10 38 true := ⟨R_Md, F_Md, 45, t_Md, cl_Md, by decide, (tbG_of (tm_4 (ta 205 rfl)) rfl), rfl, fun _ => rfl⟩
theorem f_Md_89 : FL R_Md 89 10 39 true := ⟨R_Md, F_Md, 45, t_Md, cl_Md, by decide, (tbG_of (tm_4 (ta 206 rfl)) rfl), rfl, fun _ => rfl⟩
theorem f_Md_92 : FL R_Md 92 10 40 true := ⟨R_Md, F_Md, 45, t_Md, cl_Md, by decide, (tbG_of (tm_4 (ta 207 rfl)) rfl), rfl, fun _ => rfl⟩
theorem f_Md_95 : FL R_Md 95 10 41 true := ⟨R_Md, F_Md, 45, t_Md, cl_Md, by decide, (tbG_of (tm_4 (ta 208 rfl)) rfl), rfl, fun _ => rfl⟩
theorem f_Md_98 : FL R_Md 98 10 42 true := ⟨R_Md, F_Md, 45, t_Md, cl_Md, by decide, (tbG_of (tm_4 (ta 209 rfl)) rfl), rfl, fun _ => rfl⟩
theorem f_Md_101 : FL R_Md 101 10 43 true := ⟨R_Md, F_Md, 45, t_Md, cl_Md, by decide, (tbG_of (tm_4 (ta 210 rfl)) rfl), rfl, fun _ => rfl⟩
theorem f_Md_104 : FL R_Md 104 10 44 true := ⟨R_Md, F_Md, 45, t_Md, cl_Md, by decide, (tbG_of (tm_4 (ta 211 rfl)) rfl), rfl, fun _ => rfl⟩
theorem k_La_9 : CI "PromiseNamesLaw" 9 m_Pn_init 0 := ⟨ok_Pn_init, Or.inl (tbG_of (tm_1 (ta 23 rfl)) rfl), (tbG_of (tm_1 (ta 24 rfl)) rfl), rfl, by decide +kernel, rfl⟩
theorem k_Pn_9 : CI R_Pn 9 m_Tl_init 0 := ⟨ok_Tl_init, Or.inr (by decide +kernel), (tbG_of (tm_1 (ta 32 rfl)) rfl), rfl, by decide +kernel, rfl⟩
theorem k_Pn_21 : CI R_Pn 21 m_Rd_init 0 := ⟨ok_Rd_init, Or.inr (by decide +kernel), (tbG_of (tm_1 (ta 89 rfl)) rfl), rfl, by decide +kernel, rfl⟩
theorem k_Pn_28 : CI R_Pn 28 m_St_init 1 := ⟨ok_St_init, Or.inl (tbG_of (tm_1 (ta 115 rfl)) rfl), (tbG_of (tm_1 (ta 116 rfl)) rfl), rfl, by decide +kernel, rfl⟩
theorem k_Pn_37 : CI R_Pn 37 m_Ps_init 1 := ⟨ok_Ps_init, Or.inl (tbG_of (tm_1 (ta 156 rfl)) rfl), (tbG_of (tm_1 (ta 157 rfl)) rfl), rfl, by decide +kernel, rfl⟩
theorem k_Ps_15 : CI R_Ps 15 m_St_init 1 := ⟨ok_St_init, Or.inl (tbG_of (tm_1 (ta 162 rfl)) rfl), (tbG_of (tm_1 (ta 116 rfl)) rfl), rfl, by decide +kernel, rfl⟩
theorem k_Pn_52 : CI R_Pn 52 m_Fo_init 1 := ⟨ok_Fo_init, Or.inl (tbG_of (tm_1 (ta 176 rfl)) rfl), (tbG_of (tm_1 (ta 177 rfl)) rfl), rfl, by decide +kernel, rfl⟩
theorem k_Fo_27 : CI R_Fo 27 m_St_init 1 := ⟨ok_St_init, Or.inl (tbG_of (tm_1 (ta 181 rfl)) rfl), (tbG_of (tm_1 (ta 116 rfl)) rfl), rfl, by decide +kernel, rfl⟩
theorem k_Pn_59 : CI R_Pn 59 m_Sg_init 0 := ⟨ok_Sg_init, Or.inr (by decide +kernel), (tbG_of (tm_1 (ta 208 rfl)) rfl), rfl, by decide +kernel, rfl⟩
theorem k_Pn_66 : CI R_Pn 66 m_Sh_init 0 := ⟨ok_Sh_init, Or.inr (by decide +kernel), (tbG_of (tm_1 (ta 228 rfl)) rfl), rfl, by decide +kernel, rfl⟩
theorem k_La_13 : CV "PromiseNamesLaw" 13 m_Pn_write 1 0 := ⟨ok_Pn_write, (tbG_of (tm_2 (ta 29 rfl)) rfl), (tbG_of (tm_2 (ta 30 rfl)) rfl), (tbG_of (tm_2 (ta 31 rfl)) rfl), by decide +kernel, _, _, _, cl_Pn⟩
theorem k_Pn_71 : CS R_Pn 71 m_Pn_isWithin 3 := ⟨ok_Pn_isWithin, Or.inl (tbG_of (tm_2 (ta 33 rfl)) rfl), (tbG_of (tm_2 (ta 34 rfl)) rfl), by decide +kernel⟩
theorem k_Pn_75 : CV R_Pn 75 m_Rd_addLetter 1 2 := ⟨ok_Rd_addLetter, (tbG_of (tm_2 (ta 36 rfl)) rfl), (tbG_of (tm_2 (ta 37 rfl)) rfl), (tbG_of (tm_2 (ta 38 rfl)) rfl), by decide +kernel, _, _, _, cl_Rd⟩
theorem k_La_18 : CV "PromiseNamesLaw" 18 m_Pn_erase 0 0 := ⟨ok_Pn_erase, (tbG_of (tm_2 (ta 40 rfl)) rfl), (tbG_of (tm_2 (ta 41 rfl)) rfl), (tbG_of (tm_2 (ta 42 rfl)) rfl), by decide +kernel, _, _, _, cl_Pn⟩
theorem k_La_23 : CV "PromiseNamesLaw" 23 m_Pn_fault 0 0 := ⟨ok_Pn_fault, (tbG_of (tm_2 (ta 44 rfl)) rfl), (tbG_of (tm_2 (ta 45 rfl)) rfl), (tbG_of (tm_2 (ta 46 rfl)) rfl), by decide +kernel, _, _, _, cl_Pn⟩
theorem k_Pn_83 : CV R_Pn 83 m_Tl_copyFrom 1 1 := ⟨ok_Tl_copyFrom, (tbG_of (tm_2 (ta 48 rfl)) rfl), (tbG_of (tm_2 (ta 49 rfl)) rfl), (tbG_of (tm_2 (ta 50 rfl)) rfl), by decide +kernel, _, _, _, cl_Tl⟩
theorem k_Pn_86 : CV R_Pn 86 m_Rd_readInto 1 2 := ⟨ok_Rd_readInto, (tbG_of (tm_2 (ta 55 rfl)) rfl), (tbG_of (tm_2 (ta 56 rfl)) rfl), (tbG_of (tm_2 (ta 57 rfl)) rfl), by decide +kernel, _, _, _, cl_Rd⟩
theorem k_Rd_25 : CV R_Rd 25 m_Rd_toNextToken 0 2 := ⟨ok_Rd_toNextToken, (tbG_of (tm_2 (ta 59 rfl)) rfl), (tbG_of (tm_2 (ta 61 rfl)) rfl), (tbG_of (tm_0 (ta 0 rfl)) rfl), by decide +kernel, _, _, _, cl_Rd⟩
theorem k_Rd_128 : CS R_Rd 128 m_Rd_sortOf 1 := ⟨ok_Rd_sortOf, Or.inl (tbG_of (tm_2 (ta 66 rfl)) rfl), (tbG_of (tm_2 (ta 67 rfl)) rfl), by decide +kernel⟩
theorem k_Rd_28 : CV R_Rd 28 m_Rd_readClause 1 2 := ⟨ok_Rd_readClause, (tbG_of (tm_2 (ta 69 rfl)) rfl), (tbG_of (tm_2 (ta 71 rfl)) rfl), (tbG_of (tm_0 (ta 1 rfl)) rfl), by decide +kernel, _, _, _, cl_Rd⟩
theorem k_Rd_44 : CV R_Rd 44 m_Rd_isWord 1 2 := ⟨ok_Rd_isWord, (tbG_of (tm_2 (ta 74 rfl)) rfl), (tbG_of (tm_2 (ta 76 rfl)) rfl), (tbG_of (tm_0 (ta 2 rfl)) rfl), by decide +kernel, _, _, _, cl_Rd⟩
theorem k_Sr_495 : CS "java/lang/String" 495 m_Sl_charAt 2 := ⟨ok_Sl_charAt, Or.inl (tbG_of (tm_2 (ta 96 rfl)) rfl), (tbG_of (tm_2 (ta 97 rfl)) rfl), by decide +kernel⟩
theorem k_Sl_9 : CS "java/lang/StringLatin1" 9 m_Sr_checkIndex 2 := ⟨ok_Sr_checkIndex, Or.inl (tbG_of (tm_2 (ta 99 rfl)) rfl), (tbG_of (tm_2 (ta 100 rfl)) rfl), by decide +kernel⟩
theorem k_Sr_1059 : CS "java/lang/String" 1059 m_Pr_checkIndex 3 := ⟨ok_Pr_checkIndex, Or.inl (tbG_of (tm_2 (ta 104 rfl)) rfl), (tbG_of (tm_2 (ta 105 rfl)) rfl), by decide +kernel⟩
theorem k_Rd_48 : CV R_Rd 48 m_Tl_clear 0 1 := ⟨ok_Tl_clear, (tbG_of (tm_2 (ta 126 rfl)) rfl), (tbG_of (tm_2 (ta 127 rfl)) rfl), (tbG_of (tm_2 (ta 128 rfl)) rfl), by decide +kernel, _, _, _, cl_Tl⟩
theorem k_Rd_55 : CV R_Rd 55 m_Rd_readPerson 1 2 := ⟨ok_Rd_readPerson, (tbG_of (tm_2 (ta 131 rfl)) rfl), (tbG_of (tm_2 (ta 133 rfl)) rfl), (tbG_of (tm_0 (ta 3 rfl)) rfl), by decide +kernel, _, _, _, cl_Rd⟩
theorem k_Rd_83 : CV R_Rd 83 m_Tl_hasRoomForPerson 0 1 := ⟨ok_Tl_hasRoomForPerson, (tbG_of (tm_2 (ta 135 rfl)) rfl), (tbG_of (tm_2 (ta 136 rfl)) rfl), (tbG_of (tm_2 (ta 137 rfl)) rfl), by decide +kernel, _, _, _, cl_Tl⟩
theorem k_Rd_87 : CV R_Rd 87 m_Rd_isNumber 2 2 := ⟨ok_Rd_isNumber, (tbG_of (tm_2 (ta 139 rfl)) rfl), (tbG_of (tm_2 (ta 141 rfl)) rfl), (tbG_of (tm_0 (ta 4 rfl)) rfl), by decide +kernel, _, _, _, cl_Rd⟩
theorem k_Rd_115 : CV R_Rd 115 m_Rd_numberHere 0 2 := ⟨ok_Rd_numberHere, (tbG_of (tm_2 (ta 143 rfl)) rfl), (tbG_of (tm_2 (ta 145 rfl)) rfl), (tbG_of (tm_0 (ta 5 rfl)) rfl), by decide +kernel, _, _, _, cl_Rd⟩
theorem k_Rd_131 : CS R_Rd 131 m_Pn_isWithin 3 := ⟨ok_Pn_isWithin, Or.inr (by decide +kernel), (tbG_of (tm_2 (ta 34 rfl)) rfl), by decide +kernel⟩
theorem k_Rd_91 : CV R_Rd 91 m_Rd_takeNumber 0 2 := ⟨ok_Rd_takeNumber, (tbG_of (tm_2 (ta 148 rfl)) rfl), (tbG_of (tm_2 (ta 150 rfl)) rfl), (tbG_of (tm_0 (ta 6 rfl)) rfl), by decide +kernel, _, _, _, cl_Rd⟩
theorem k_Rd_97 : CV R_Rd 97 m_Tl_addPerson 3 1 := ⟨ok_Tl_addPerson, (tbG_of (tm_2 (ta 152 rfl)) rfl), (tbG_of (tm_2 (ta 153 rfl)) rfl), (tbG_of (tm_2 (ta 154 rfl)) rfl), by decide +kernel, _, _, _, cl_Tl⟩
theorem k_Tl_49 : CV R_Tl 49 m_Tl_hasRoomForPerson 0 1 := ⟨ok_Tl_hasRoomForPerson, (tbG_of (tm_2 (ta 156 rfl)) rfl), (tbG_of (tm_2 (ta 136 rfl)) rfl), (tbG_of (tm_2 (ta 137 rfl)) rfl), by decide +kernel, _, _, _, cl_Tl⟩
theorem k_Rd_60 : CV R_Rd 60 m_Rd_readStrife 1 2 := ⟨ok_Rd_readStrife, (tbG_of (tm_2 (ta 158 rfl)) rfl), (tbG_of (tm_2 (ta 160 rfl)) rfl), (tbG_of (tm_0 (ta 7 rfl)) rfl), by decide +kernel, _, _, _, cl_Rd⟩
theorem k_Rd_118 : CV R_Rd 118 m_Tl_addStrife 2 1 := ⟨ok_Tl_addStrife, (tbG_of (tm_2 (ta 162 rfl)) rfl), (tbG_of (tm_2 (ta 163 rfl)) rfl), (tbG_of (tm_2 (ta 164 rfl)) rfl), by decide +kernel, _, _, _, cl_Tl⟩
theorem k_Rd_63 : CV R_Rd 63 m_Rd_kindByWord 0 2 := ⟨ok_Rd_kindByWord, (tbG_of (tm_2 (ta 166 rfl)) rfl), (tbG_of (tm_2 (ta 168 rfl)) rfl), (tbG_of (tm_0 (ta 8 rfl)) rfl), by decide +kernel, _, _, _, cl_Rd⟩
theorem k_Rd_67 : CV R_Rd 67 m_Rd_readPromise 2 2 := ⟨ok_Rd_readPromise, (tbG_of (tm_2 (ta 175 rfl)) rfl), (tbG_of (tm_2 (ta 177 rfl)) rfl), (tbG_of (tm_0 (ta 9 rfl)) rfl), by decide +kernel, _, _, _, cl_Rd⟩
theorem k_Rd_101 : CV R_Rd 101 m_Tl_hasRoomForPromise 0 1 := ⟨ok_Tl_hasRoomForPromise, (tbG_of (tm_2 (ta 179 rfl)) rfl), (tbG_of (tm_2 (ta 180 rfl)) rfl), (tbG_of (tm_2 (ta 181 rfl)) rfl), by decide +kernel, _, _, _, cl_Tl⟩
theorem k_Rd_107 : CV R_Rd 107 m_Rd_needsByWord 1 2 := ⟨ok_Rd_needsByWord, (tbG_of (tm_2 (ta 183 rfl)) rfl), (tbG_of (tm_2 (ta 185 rfl)) rfl), (tbG_of (tm_0 (ta 10 rfl)) rfl), by decide +kernel, _, _, _, cl_Rd⟩
theorem k_Rd_111 : CV R_Rd 111 m_Tl_addPromise 4 1 := ⟨ok_Tl_addPromise, (tbG_of (tm_2 (ta 187 rfl)) rfl), (tbG_of (tm_2 (ta 188 rfl)) rfl), (tbG_of (tm_2 (ta 189 rfl)) rfl), by decide +kernel, _, _, _, cl_Tl⟩
theorem k_Tl_53 : CV R_Tl 53 m_Tl_hasRoomForPromise 0 1 := ⟨ok_Tl_hasRoomForPromise, (tbG_of (tm_2 (ta 191 rfl)) rfl), (tbG_of (tm_2 (ta 180 rfl)) rfl), (tbG_of (tm_2 (ta 181 rfl)) rfl), by decide +kernel, _, _, _, cl_Tl⟩
theorem k_Rd_38 : CV R_Rd 38 m_Rd_isSign 1 2 := ⟨ok_Rd_isSign, (tbG_of (tm_2 (ta 192 rfl)) rfl), (tbG_of (tm_2 (ta 194 rfl)) rfl), (tbG_of (tm_0 (ta 11 rfl)) rfl), by decide +kernel, _, _, _, cl_Rd⟩
theorem k_La_27 : CV "PromiseNamesLaw" 27 m_Pn_parish 0 0 := ⟨ok_Pn_parish, (tbG_of (tm_2 (ta 197 rfl)) rfl), (tbG_of (tm_2 (ta 198 rfl)) rfl), (tbG_of (tm_2 (ta 199 rfl)) rfl), by decide +kernel, _, _, _, cl_Pn⟩
theorem k_Pn_90 : CV R_Pn 90 m_Pn_beginAnew 0 0 := ⟨ok_Pn_beginAnew, (tbG_of (tm_2 (ta 201 rfl)) rfl), (tbG_of (tm_2 (ta 203 rfl)) rfl), (tbG_of (tm_0 (ta 12 rfl)) rfl), by decide +kernel, _, _, _, cl_Pn⟩
theorem k_Pn_96 : CV R_Pn 96 m_St_setAsTold 0 3 := ⟨ok_St_setAsTold, (tbG_of (tm_2 (ta 205 rfl)) rfl), (tbG_of (tm_2 (ta 206 rfl)) rfl), (tbG_of (tm_2 (ta 207 rfl)) rfl), by decide +kernel, _, _, _, cl_St⟩
theorem k_Pn_103 : CV R_Pn 103 m_Sh_clear 0 7 := ⟨ok_Sh_clear, (tbG_of (tm_2 (ta 210 rfl)) rfl), (tbG_of (tm_2 (ta 211 rfl)) rfl), (tbG_of (tm_2 (ta 212 rfl)) rfl), by decide +kernel, _, _, _, cl_Sh⟩
theorem k_La_31 : CV "PromiseNamesLaw" 31 m_Pn_person 2 0 := ⟨ok_Pn_person, (tbG_of (tm_2 (ta 214 rfl)) rfl), (tbG_of (tm_2 (ta 215 rfl)) rfl), (tbG_of (tm_2 (ta 216 rfl)) rfl), by decide +kernel, _, _, _, cl_Pn⟩
theorem k_Pn_106 : CV R_Pn 106 m_Pn_isPerson 1 0 := ⟨ok_Pn_isPerson, (tbG_of (tm_2 (ta 218 rfl)) rfl), (tbG_of (tm_2 (ta 220 rfl)) rfl), (tbG_of (tm_0 (ta 13 rfl)) rfl), by decide +kernel, _, _, _, cl_Pn⟩
theorem k_Pn_119 : CV R_Pn 119 m_St_howManyHeldBy 1 3 := ⟨ok_St_howManyHeldBy, (tbG_of (tm_2 (ta 222 rfl)) rfl), (tbG_of (tm_2 (ta 223 rfl)) rfl), (tbG_of (tm_2 (ta 224 rfl)) rfl), by decide +kernel, _, _, _, cl_St⟩
theorem k_La_36 : CV "PromiseNamesLaw" 36 m_Pn_holds 2 0 := ⟨ok_Pn_holds, (tbG_of (tm_2 (ta 226 rfl)) rfl), (tbG_of (tm_2 (ta 227 rfl)) rfl), (tbG_of (tm_2 (ta 228 rfl)) rfl), by decide +kernel, _, _, _, cl_Pn⟩
theorem k_Pn_123 : CV R_Pn 123 m_St_heldAt 2 3 := ⟨ok_St_heldAt, (tbG_of (tm_2 (ta 230 rfl)) rfl), (tbG_of (tm_2 (ta 231 rfl)) rfl), (tbG_of (tm_2 (ta 232 rfl)) rfl), by decide +kernel, _, _, _, cl_St⟩
theorem k_La_40 : CV "PromiseNamesLaw" 40 m_Pn_promise 2 0 := ⟨ok_Pn_promise, (tbG_of (tm_2 (ta 234 rfl)) rfl), (tbG_of (tm_2 (ta 235 rfl)) rfl), (tbG_of (tm_2 (ta 236 rfl)) rfl), by decide +kernel, _, _, _, cl_Pn⟩
theorem k_Pn_127 : CV R_Pn 127 m_Pn_isPromise 1 0 := ⟨ok_Pn_isPromise, (tbG_of (tm_2 (ta 238 rfl)) rfl), (tbG_of (tm_3 (ta 0 rfl)) rfl), (tbG_of (tm_0 (ta 14 rfl)) rfl), by decide +kernel, _, _, _, cl_Pn⟩
theorem k_Pn_148 : CV R_Pn 148 m_St_isOpen 2 3 := ⟨ok_St_isOpen, (tbG_of (tm_3 (ta 2 rfl)) rfl), (tbG_of (tm_3 (ta 3 rfl)) rfl), (tbG_of (tm_3 (ta 4 rfl)) rfl), by decide +kernel, _, _, _, cl_St⟩
theorem k_St_52 : CS R_St 52 m_Kd_canBeWorkedAt 1 := ⟨ok_Kd_canBeWorkedAt, Or.inl (tbG_of (tm_3 (ta 6 rfl)) rfl), (tbG_of (tm_3 (ta 7 rfl)) rfl), by decide +kernel⟩
theorem k_La_44 : CV "PromiseNamesLaw" 44 m_Pn_as 2 0 := ⟨ok_Pn_as, (tbG_of (tm_3 (ta 9 rfl)) rfl), (tbG_of (tm_3 (ta 10 rfl)) rfl), (tbG_of (tm_3 (ta 11 rfl)) rfl), by decide +kernel, _, _, _, cl_Pn⟩
theorem k_Pn_152 : CS R_Pn 152 m_Kd_isUnder 2 := ⟨ok_Kd_isUnder, Or.inl (tbG_of (tm_3 (ta 13 rfl)) rfl), (tbG_of (tm_3 (ta 14 rfl)) rfl), by decide +kernel⟩
theorem k_Pn_157 : CS R_Pn 157 m_Kd_does 2 := ⟨ok_Kd_does, Or.inl (tbG_of (tm_3 (ta 16 rfl)) rfl), (tbG_of (tm_3 (ta 17 rfl)) rfl), by decide +kernel⟩
theorem k_La_48 : CV "PromiseNamesLaw" 48 m_Pn_year 1 0 := ⟨ok_Pn_year, (tbG_of (tm_3 (ta 19 rfl)) rfl), (tbG_of (tm_3 (ta 20 rfl)) rfl), (tbG_of (tm_3 (ta 21 rfl)) rfl), by decide +kernel, _, _, _, cl_Pn⟩
theorem k_Pn_163 : CV R_Pn 163 m_Ps_remember 1 4 := ⟨ok_Ps_remember, (tbG_of (tm_3 (ta 23 rfl)) rfl), (tbG_of (tm_3 (ta 24 rfl)) rfl), (tbG_of (tm_3 (ta 25 rfl)) rfl), by decide +kernel, _, _, _, cl_Ps⟩
theorem k_Ps_22 : CV R_Ps 22 m_St_copyFrom 1 3 := ⟨ok_St_copyFrom, (tbG_of (tm_3 (ta 27 rfl)) rfl), (tbG_of (tm_3 (ta 28 rfl)) rfl), (tbG_of (tm_3 (ta 29 rfl)) rfl), by decide +kernel, _, _, _, cl_St⟩
theorem k_Pn_167 : CV R_Pn 167 m_St_passYears 1 3 := ⟨ok_St_passYears, (tbG_of (tm_3 (ta 32 rfl)) rfl), (tbG_of (tm_3 (ta 33 rfl)) rfl), (tbG_of (tm_3 (ta 34 rfl)) rfl), by decide +kernel, _, _, _, cl_St⟩
theorem k_St_61 : CV R_St 61 m_St_workAll 0 3 := ⟨ok_St_workAll, (tbG_of (tm_3 (ta 36 rfl)) rfl), (tbG_of (tm_3 (ta 38 rfl)) rfl), (tbG_of (tm_0 (ta 15 rfl)) rfl), by decide +kernel, _, _, _, cl_St⟩
theorem k_St_70 : CS R_St 70 m_Pn_isWithin 3 := ⟨ok_Pn_isWithin, Or.inr (by decide +kernel), (tbG_of (tm_2 (ta 34 rfl)) rfl), by decide +kernel⟩
theorem k_St_74 : CV R_St 74 m_St_isOpen 2 3 := ⟨ok_St_isOpen, (tbG_of (tm_3 (ta 41 rfl)) rfl), (tbG_of (tm_3 (ta 3 rfl)) rfl), (tbG_of (tm_3 (ta 4 rfl)) rfl), by decide +kernel, _, _, _, cl_St⟩
theorem k_St_81 : CV R_St 81 m_St_workAt 2 3 := ⟨ok_St_workAt, (tbG_of (tm_3 (ta 42 rfl)) rfl), (tbG_of (tm_3 (ta 44 rfl)) rfl), (tbG_of (tm_0 (ta 16 rfl)) rfl), by decide +kernel, _, _, _, cl_St⟩
theorem k_St_85 : CS R_St 85 m_Kd_does 2 := ⟨ok_Kd_does, Or.inl (tbG_of (tm_3 (ta 46 rfl)) rfl), (tbG_of (tm_3 (ta 17 rfl)) rfl), by decide +kernel⟩
theorem k_St_89 : CV R_St 89 m_St_markKept 1 3 := ⟨ok_St_markKept, (tbG_of (tm_3 (ta 47 rfl)) rfl), (tbG_of (tm_3 (ta 49 rfl)) rfl), (tbG_of (tm_0 (ta 17 rfl)) rfl), by decide +kernel, _, _, _, cl_St⟩
theorem k_St_64 : CV R_St 64 m_St_ageAll 0 3 := ⟨ok_St_ageAll, (tbG_of (tm_3 (ta 51 rfl)) rfl), (tbG_of (tm_3 (ta 53 rfl)) rfl), (tbG_of (tm_0 (ta 18 rfl)) rfl), by decide +kernel, _, _, _, cl_St⟩
theorem k_St_96 : CV R_St 96 m_St_leaveAll 1 3 := ⟨ok_St_leaveAll, (tbG_of (tm_3 (ta 55 rfl)) rfl), (tbG_of (tm_3 (ta 57 rfl)) rfl), (tbG_of (tm_0 (ta 19 rfl)) rfl), by decide +kernel, _, _, _, cl_St⟩
theorem k_St_99 : CV R_St 99 m_St_whoInherits 1 3 := ⟨ok_St_whoInherits, (tbG_of (tm_3 (ta 59 rfl)) rfl), (tbG_of (tm_3 (ta 61 rfl)) rfl), (tbG_of (tm_0 (ta 20 rfl)) rfl), by decide +kernel, _, _, _, cl_St⟩
theorem k_St_103 : CS R_St 103 m_Kd_isKeptByDeath 1 := ⟨ok_Kd_isKeptByDeath, Or.inl (tbG_of (tm_3 (ta 63 rfl)) rfl), (tbG_of (tm_3 (ta 64 rfl)) rfl), by decide +kernel⟩
theorem k_St_106 : CV R_St 106 m_St_moveToEnd 1 3 := ⟨ok_St_moveToEnd, (tbG_of (tm_3 (ta 66 rfl)) rfl), (tbG_of (tm_3 (ta 68 rfl)) rfl), (tbG_of (tm_0 (ta 21 rfl)) rfl), by decide +kernel, _, _, _, cl_St⟩
theorem k_La_52 : CV "PromiseNamesLaw" 52 m_Pn_give 2 0 := ⟨ok_Pn_give, (tbG_of (tm_3 (ta 70 rfl)) rfl), (tbG_of (tm_3 (ta 71 rfl)) rfl), (tbG_of (tm_3 (ta 72 rfl)) rfl), by decide +kernel, _, _, _, cl_Pn⟩
theorem k_Pn_171 : CV R_Pn 171 m_St_handOver 2 3 := ⟨ok_St_handOver, (tbG_of (tm_3 (ta 74 rfl)) rfl), (tbG_of (tm_3 (ta 75 rfl)) rfl), (tbG_of (tm_3 (ta 76 rfl)) rfl), by decide +kernel, _, _, _, cl_St⟩
theorem k_St_112 : CV R_St 112 m_St_placeOf 1 3 := ⟨ok_St_placeOf, (tbG_of (tm_3 (ta 78 rfl)) rfl), (tbG_of (tm_3 (ta 80 rfl)) rfl), (tbG_of (tm_0 (ta 22 rfl)) rfl), by decide +kernel, _, _, _, cl_St⟩
theorem k_La_56 : CV "PromiseNamesLaw" 56 m_Pn_shorten 1 0 := ⟨ok_Pn_shorten, (tbG_of (tm_3 (ta 82 rfl)) rfl), (tbG_of (tm_3 (ta 83 rfl)) rfl), (tbG_of (tm_3 (ta 84 rfl)) rfl), by decide +kernel, _, _, _, cl_Pn⟩
theorem k_La_60 : CV "PromiseNamesLaw" 60 m_Pn_ahead 1 0 := ⟨ok_Pn_ahead, (tbG_of (tm_3 (ta 86 rfl)) rfl), (tbG_of (tm_3 (ta 87 rfl)) rfl), (tbG_of (tm_3 (ta 88 rfl)) rfl), by decide +kernel, _, _, _, cl_Pn⟩
theorem k_Pn_175 : CV R_Pn 175 m_St_rankOf 1 3 := ⟨ok_St_rankOf, (tbG_of (tm_3 (ta 90 rfl)) rfl), (tbG_of (tm_3 (ta 91 rfl)) rfl), (tbG_of (tm_3 (ta 92 rfl)) rfl), by decide +kernel, _, _, _, cl_St⟩
theorem k_Pn_178 : CV R_Pn 178 m_St_putFirst 1 3 := ⟨ok_St_putFirst, (tbG_of (tm_3 (ta 94 rfl)) rfl), (tbG_of (tm_3 (ta 95 rfl)) rfl), (tbG_of (tm_3 (ta 96 rfl)) rfl), by decide +kernel, _, _, _, cl_St⟩
theorem k_La_64 : CV "PromiseNamesLaw" 64 m_Pn_undo 0 0 := ⟨ok_Pn_undo, (tbG_of (tm_3 (ta 98 rfl)) rfl), (tbG_of (tm_3 (ta 99 rfl)) rfl), (tbG_of (tm_3 (ta 100 rfl)) rfl), by decide +kernel, _, _, _, cl_Pn⟩
theorem k_Pn_181 : CV R_Pn 181 m_Ps_restoreLatest 1 4 := ⟨ok_Ps_restoreLatest, (tbG_of (tm_3 (ta 102 rfl)) rfl), (tbG_of (tm_3 (ta 103 rfl)) rfl), (tbG_of (tm_3 (ta 104 rfl)) rfl), by decide +kernel, _, _, _, cl_Ps⟩
theorem k_La_68 : CV "PromiseNamesLaw" 68 m_Pn_keep 1 0 := ⟨ok_Pn_keep, (tbG_of (tm_3 (ta 106 rfl)) rfl), (tbG_of (tm_3 (ta 107 rfl)) rfl), (tbG_of (tm_3 (ta 108 rfl)) rfl), by decide +kernel, _, _, _, cl_Pn⟩
theorem k_Pn_184 : CV R_Pn 184 m_St_copyFrom 1 3 := ⟨ok_St_copyFrom, (tbG_of (tm_3 (ta 110 rfl)) rfl), (tbG_of (tm_3 (ta 28 rfl)) rfl), (tbG_of (tm_3 (ta 29 rfl)) rfl), by decide +kernel, _, _, _, cl_St⟩
theorem k_La_72 : CV "PromiseNamesLaw" 72 m_Pn_back 1 0 := ⟨ok_Pn_back, (tbG_of (tm_3 (ta 111 rfl)) rfl), (tbG_of (tm_3 (ta 112 rfl)) rfl), (tbG_of (tm_3 (ta 113 rfl)) rfl), by decide +kernel, _, _, _, cl_Pn⟩
theorem k_La_76 : CV "PromiseNamesLaw" 76 m_Pn_behind 3 0 := ⟨ok_Pn_behind, (tbG_of (tm_3 (ta 115 rfl)) rfl), (tbG_of (tm_3 (ta 116 rfl)) rfl), (tbG_of (tm_3 (ta 117 rfl)) rfl), by decide +kernel, _, _, _, cl_Pn⟩
theorem k_Pn_186 : CV R_Pn 186 m_Fo_stateBehind 2 5 := ⟨ok_Fo_stateBehind, (tbG_of (tm_3 (ta 119 rfl)) rfl), (tbG_of (tm_3 (ta 120 rfl)) rfl), (tbG_of (tm_3 (ta 121 rfl)) rfl), by decide +kernel, _, _, _, cl_Fo⟩
theorem k_Fo_34 : CV R_Fo 34 m_St_copyFrom 1 3 := ⟨ok_St_copyFrom, (tbG_of (tm_3 (ta 123 rfl)) rfl), (tbG_of (tm_3 (ta 28 rfl)) rfl), (tbG_of (tm_3 (ta 29 rfl)) rfl), by decide +kernel, _, _, _, cl_St⟩
theorem k_Fo_38 : CV R_Fo 38 m_St_passYears 1 3 := ⟨ok_St_passYears, (tbG_of (tm_3 (ta 124 rfl)) rfl), (tbG_of (tm_3 (ta 33 rfl)) rfl), (tbG_of (tm_3 (ta 34 rfl)) rfl), by decide +kernel, _, _, _, cl_St⟩
theorem k_La_81 : CV "PromiseNamesLaw" 81 m_Pn_keeps 1 0 := ⟨ok_Pn_keeps, (tbG_of (tm_3 (ta 125 rfl)) rfl), (tbG_of (tm_3 (ta 126 rfl)) rfl), (tbG_of (tm_3 (ta 127 rfl)) rfl), by decide +kernel, _, _, _, cl_Pn⟩
theorem k_Pn_190 : CV R_Pn 190 m_Fo_yearsUntilKept 2 5 := ⟨ok_Fo_yearsUntilKept, (tbG_of (tm_3 (ta 129 rfl)) rfl), (tbG_of (tm_3 (ta 130 rfl)) rfl), (tbG_of (tm_3 (ta 131 rfl)) rfl), by decide +kernel, _, _, _, cl_Fo⟩
theorem k_La_85 : CV "PromiseNamesLaw" 85 m_Pn_just 1 0 := ⟨ok_Pn_just, (tbG_of (tm_3 (ta 133 rfl)) rfl), (tbG_of (tm_3 (ta 134 rfl)) rfl), (tbG_of (tm_3 (ta 135 rfl)) rfl), by decide +kernel, _, _, _, cl_Pn⟩
theorem k_Pn_194 : CV R_Pn 194 m_Fo_yearsUntilFree 2 5 := ⟨ok_Fo_yearsUntilFree, (tbG_of (tm_3 (ta 137 rfl)) rfl), (tbG_of (tm_3 (ta 138 rfl)) rfl), (tbG_of (tm_3 (ta 139 rfl)) rfl), by decide +kernel, _, _, _, cl_Fo⟩
theorem k_Fo_48 : CV R_Fo 48 m_St_howManyHeldBy 1 3 := ⟨ok_St_howManyHeldBy, (tbG_of (tm_3 (ta 141 rfl)) rfl), (tbG_of (tm_2 (ta 223 rfl)) rfl), (tbG_of (tm_2 (ta 224 rfl)) rfl), by decide +kernel, _, _, _, cl_St⟩
theorem k_La_89 : CV "PromiseNamesLaw" 89 m_Pn_stuck 0 0 := ⟨ok_Pn_stuck, (tbG_of (tm_3 (ta 142 rfl)) rfl), (tbG_of (tm_3 (ta 143 rfl)) rfl), (tbG_of (tm_3 (ta 144 rfl)) rfl), by decide +kernel, _, _, _, cl_Pn⟩
theorem k_Pn_197 : CV R_Pn 197 m_St_neverKept 0 3 := ⟨ok_St_neverKept, (tbG_of (tm_3 (ta 146 rfl)) rfl), (tbG_of (tm_3 (ta 147 rfl)) rfl), (tbG_of (tm_3 (ta 148 rfl)) rfl), by decide +kernel, _, _, _, cl_St⟩
theorem k_La_93 : CV "PromiseNamesLaw" 93 m_Pn_order 3 0 := ⟨ok_Pn_order, (tbG_of (tm_3 (ta 150 rfl)) rfl), (tbG_of (tm_3 (ta 151 rfl)) rfl), (tbG_of (tm_3 (ta 152 rfl)) rfl), by decide +kernel, _, _, _, cl_Pn⟩
theorem k_Pn_201 : CV R_Pn 201 m_Fo_findBestOrder 3 5 := ⟨ok_Fo_findBestOrder, (tbG_of (tm_3 (ta 154 rfl)) rfl), (tbG_of (tm_3 (ta 155 rfl)) rfl), (tbG_of (tm_3 (ta 156 rfl)) rfl), by decide +kernel, _, _, _, cl_Fo⟩
theorem k_Fo_63 : CV R_Fo 63 m_Fo_findPlaces 2 5 := ⟨ok_Fo_findPlaces, (tbG_of (tm_3 (ta 158 rfl)) rfl), (tbG_of (tm_3 (ta 160 rfl)) rfl), (tbG_of (tm_0 (ta 23 rfl)) rfl), by decide +kernel, _, _, _, cl_Fo⟩
theorem k_Fo_70 : CV R_Fo 70 m_Fo_weighTrial 1 5 := ⟨ok_Fo_weighTrial, (tbG_of (tm_3 (ta 162 rfl)) rfl), (tbG_of (tm_3 (ta 164 rfl)) rfl), (tbG_of (tm_0 (ta 24 rfl)) rfl), by decide +kernel, _, _, _, cl_Fo⟩
theorem k_Fo_85 : CS R_Fo 85 m_In_bitCount 1 := ⟨ok_In_bitCount, Or.inl (tbG_of (tm_3 (ta 166 rfl)) rfl), (tbG_of (tm_3 (ta 167 rfl)) rfl), by decide +kernel⟩
theorem k_Fo_73 : CV R_Fo 73 m_Fo_toNextOrder 0 5 := ⟨ok_Fo_toNextOrder, (tbG_of (tm_3 (ta 173 rfl)) rfl), (tbG_of (tm_3 (ta 175 rfl)) rfl), (tbG_of (tm_0 (ta 25 rfl)) rfl), by decide +kernel, _, _, _, cl_Fo⟩
theorem k_Fo_96 : CV R_Fo 96 m_Fo_swapTried 2 5 := ⟨ok_Fo_swapTried, (tbG_of (tm_3 (ta 177 rfl)) rfl), (tbG_of (tm_3 (ta 179 rfl)) rfl), (tbG_of (tm_0 (ta 26 rfl)) rfl), by decide +kernel, _, _, _, cl_Fo⟩
theorem k_Pn_205 : CV R_Pn 205 m_Fo_answerAt 1 5 := ⟨ok_Fo_answerAt, (tbG_of (tm_3 (ta 181 rfl)) rfl), (tbG_of (tm_3 (ta 182 rfl)) rfl), (tbG_of (tm_3 (ta 183 rfl)) rfl), by decide +kernel, _, _, _, cl_Fo⟩
theorem k_Fo_59 : CS R_Fo 59 m_Pn_isWithin 3 := ⟨ok_Pn_isWithin, Or.inr (by decide +kernel), (tbG_of (tm_2 (ta 34 rfl)) rfl), by decide +kernel⟩
theorem k_La_97 : CV "PromiseNamesLaw" 97 m_Pn_godfathers 2 0 := ⟨ok_Pn_godfathers, (tbG_of (tm_3 (ta 186 rfl)) rfl), (tbG_of (tm_3 (ta 187 rfl)) rfl), (tbG_of (tm_3 (ta 188 rfl)) rfl), by decide +kernel, _, _, _, cl_Pn⟩
theorem k_Pn_208 : CV R_Pn 208 m_Fo_findBestGodfathers 2 5 := ⟨ok_Fo_findBestGodfathers, (tbG_of (tm_3 (ta 190 rfl)) rfl), (tbG_of (tm_3 (ta 191 rfl)) rfl), (tbG_of (tm_3 (ta 192 rfl)) rfl), by decide +kernel, _, _, _, cl_Fo⟩
theorem k_Fo_109 : CV R_Fo 109 m_Fo_chooseWay 1 5 := ⟨ok_Fo_chooseWay, (tbG_of (tm_3 (ta 195 rfl)) rfl), (tbG_of (tm_3 (ta 197 rfl)) rfl), (tbG_of (tm_0 (ta 27 rfl)) rfl), by decide +kernel, _, _, _, cl_Fo⟩
theorem k_Fo_112 : CV R_Fo 112 m_Fo_areChosenAlive 1 5 := ⟨ok_Fo_areChosenAlive, (tbG_of (tm_3 (ta 199 rfl)) rfl), (tbG_of (tm_3 (ta 201 rfl)) rfl), (tbG_of (tm_0 (ta 28 rfl)) rfl), by decide +kernel, _, _, _, cl_Fo⟩
theorem k_Fo_116 : CV R_Fo 116 m_Fo_giveAsChosen 1 5 := ⟨ok_Fo_giveAsChosen, (tbG_of (tm_3 (ta 203 rfl)) rfl), (tbG_of (tm_3 (ta 205 rfl)) rfl), (tbG_of (tm_0 (ta 29 rfl)) rfl), by decide +kernel, _, _, _, cl_Fo⟩
theorem k_Fo_119 : CV R_Fo 119 m_St_heldAt 2 3 := ⟨ok_St_heldAt, (tbG_of (tm_3 (ta 207 rfl)) rfl), (tbG_of (tm_2 (ta 231 rfl)) rfl), (tbG_of (tm_2 (ta 232 rfl)) rfl), by decide +kernel, _, _, _, cl_St⟩
theorem k_Fo_122 : CV R_Fo 122 m_St_handOver 2 3 := ⟨ok_St_handOver, (tbG_of (tm_3 (ta 208 rfl)) rfl), (tbG_of (tm_3 (ta 75 rfl)) rfl), (tbG_of (tm_3 (ta 76 rfl)) rfl), by decide +kernel, _, _, _, cl_St⟩
theorem k_La_101 : CV "PromiseNamesLaw" 101 m_Pn_peace 0 0 := ⟨ok_Pn_peace, (tbG_of (tm_3 (ta 209 rfl)) rfl), (tbG_of (tm_3 (ta 210 rfl)) rfl), (tbG_of (tm_3 (ta 211 rfl)) rfl), by decide +kernel, _, _, _, cl_Pn⟩
theorem k_Pn_212 : CV R_Pn 212 m_Tl_largestPeacefulSet 0 1 := ⟨ok_Tl_largestPeacefulSet, (tbG_of (tm_3 (ta 213 rfl)) rfl), (tbG_of (tm_3 (ta 214 rfl)) rfl), (tbG_of (tm_3 (ta 215 rfl)) rfl), by decide +kernel, _, _, _, cl_Tl⟩
theorem k_Tl_56 : CS R_Tl 56 m_In_bitCount 1 := ⟨ok_In_bitCount, Or.inl (tbG_of (tm_3 (ta 217 rfl)) rfl), (tbG_of (tm_3 (ta 167 rfl)) rfl), by decide +kernel⟩
theorem k_Tl_62 : CV R_Tl 62 m_Tl_isPeaceful 1 1 := ⟨ok_Tl_isPeaceful, (tbG_of (tm_3 (ta 218 rfl)) rfl), (tbG_of (tm_3 (ta 220 rfl)) rfl), (tbG_of (tm_0 (ta 30 rfl)) rfl), by decide +kernel, _, _, _, cl_Tl⟩
theorem k_La_105 : CV "PromiseNamesLaw" 105 m_Pn_idle 4 0 := ⟨ok_Pn_idle, (tbG_of (tm_3 (ta 222 rfl)) rfl), (tbG_of (tm_3 (ta 223 rfl)) rfl), (tbG_of (tm_3 (ta 224 rfl)) rfl), by decide +kernel, _, _, _, cl_Pn⟩
theorem k_Pn_215 : CS R_Pn 215 m_Od_partOf 4 := ⟨ok_Od_partOf, Or.inl (tbG_of (tm_3 (ta 226 rfl)) rfl), (tbG_of (tm_3 (ta 227 rfl)) rfl), by decide +kernel⟩
theorem k_Od_7 : CS "PromiseNames$Odds" 7 m_Od_choices 2 := ⟨ok_Od_choices, Or.inl (tbG_of (tm_3 (ta 229 rfl)) rfl), (tbG_of (tm_3 (ta 230 rfl)) rfl), by decide +kernel⟩
theorem k_Od_13 : CS "PromiseNames$Odds" 13 m_Od_power 2 := ⟨ok_Od_power, Or.inl (tbG_of (tm_3 (ta 232 rfl)) rfl), (tbG_of (tm_3 (ta 233 rfl)) rfl), by decide +kernel⟩
theorem k_Od_16 : CS "PromiseNames$Odds" 16 m_Od_commonDivisor 2 := ⟨ok_Od_commonDivisor, Or.inl (tbG_of (tm_3 (ta 235 rfl)) rfl), (tbG_of (tm_3 (ta 236 rfl)) rfl), by decide +kernel⟩
theorem k_La_110 : CV "PromiseNamesLaw" 110 m_Pn_seen 3 0 := ⟨ok_Pn_seen, (tbG_of (tm_3 (ta 238 rfl)) rfl), (tbG_of (tm_3 (ta 239 rfl)) rfl), (tbG_of (tm_4 (ta 0 rfl)) rfl), by decide +kernel, _, _, _, cl_Pn⟩
theorem k_Pn_221 : CV R_Pn 221 m_Sg_add 3 6 := ⟨ok_Sg_add, (tbG_of (tm_4 (ta 2 rfl)) rfl), (tbG_of (tm_4 (ta 3 rfl)) rfl), (tbG_of (tm_4 (ta 4 rfl)) rfl), by decide +kernel, _, _, _, cl_Sg⟩
theorem k_La_114 : CV "PromiseNamesLaw" 114 m_Pn_forget 0 0 := ⟨ok_Pn_forget, (tbG_of (tm_4 (ta 6 rfl)) rfl), (tbG_of (tm_4 (ta 7 rfl)) rfl), (tbG_of (tm_4 (ta 8 rfl)) rfl), by decide +kernel, _, _, _, cl_Pn⟩
theorem k_La_118 : CV "PromiseNamesLaw" 118 m_Pn_kinds 0 0 := ⟨ok_Pn_kinds, (tbG_of (tm_4 (ta 10 rfl)) rfl), (tbG_of (tm_4 (ta 11 rfl)) rfl), (tbG_of (tm_4 (ta 12 rfl)) rfl), by decide +kernel, _, _, _, cl_Pn⟩
theorem k_Pn_224 : CV R_Pn 224 m_Sg_possibleKinds 0 6 := ⟨ok_Sg_possibleKinds, (tbG_of (tm_4 (ta 14 rfl)) rfl), (tbG_of (tm_4 (ta 15 rfl)) rfl), (tbG_of (tm_4 (ta 16 rfl)) rfl), by decide +kernel, _, _, _, cl_Sg⟩
theorem k_Sg_27 : CV R_Sg 27 m_Sg_fitsAll 1 6 := ⟨ok_Sg_fitsAll, (tbG_of (tm_4 (ta 18 rfl)) rfl), (tbG_of (tm_4 (ta 20 rfl)) rfl), (tbG_of (tm_0 (ta 31 rfl)) rfl), by decide +kernel, _, _, _, cl_Sg⟩
theorem k_Sg_31 : CS R_Sg 31 m_Kd_does 2 := ⟨ok_Kd_does, Or.inl (tbG_of (tm_4 (ta 22 rfl)) rfl), (tbG_of (tm_3 (ta 17 rfl)) rfl), by decide +kernel⟩
theorem k_La_122 : CV "PromiseNamesLaw" 122 m_Pn_attempt 0 0 := ⟨ok_Pn_attempt, (tbG_of (tm_4 (ta 23 rfl)) rfl), (tbG_of (tm_4 (ta 24 rfl)) rfl), (tbG_of (tm_4 (ta 25 rfl)) rfl), by decide +kernel, _, _, _, cl_Pn⟩
theorem k_Pn_227 : CS R_Pn 227 m_Sg_bestStrength 1 := ⟨ok_Sg_bestStrength, Or.inl (tbG_of (tm_4 (ta 27 rfl)) rfl), (tbG_of (tm_4 (ta 28 rfl)) rfl), by decide +kernel⟩
theorem k_Sg_35 : CS R_Sg 35 m_In_bitCount 1 := ⟨ok_In_bitCount, Or.inl (tbG_of (tm_4 (ta 30 rfl)) rfl), (tbG_of (tm_3 (ta 167 rfl)) rfl), by decide +kernel⟩
theorem k_Sg_41 : CS R_Sg 41 m_Sg_greatestAlike 2 := ⟨ok_Sg_greatestAlike, Or.inl (tbG_of (tm_4 (ta 31 rfl)) rfl), (tbG_of (tm_4 (ta 32 rfl)) rfl), by decide +kernel⟩
theorem k_La_126 : CV "PromiseNamesLaw" 126 m_Pn_register 2 0 := ⟨ok_Pn_register, (tbG_of (tm_4 (ta 37 rfl)) rfl), (tbG_of (tm_4 (ta 38 rfl)) rfl), (tbG_of (tm_4 (ta 39 rfl)) rfl), by decide +kernel, _, _, _, cl_Pn⟩
theorem k_Pn_230 : CS R_Pn 230 m_Pn_isRegister 1 := ⟨ok_Pn_isRegister, Or.inl (tbG_of (tm_4 (ta 41 rfl)) rfl), (tbG_of (tm_4 (ta 42 rfl)) rfl), by decide +kernel⟩
theorem k_Pn_239 : CI R_Pn 239 m_Rg_init 1 := ⟨ok_Rg_init, Or.inl (tbG_of (tm_4 (ta 46 rfl)) rfl), (tbG_of (tm_4 (ta 47 rfl)) rfl), rfl, by decide +kernel, rfl⟩
theorem k_La_130 : CV "PromiseNamesLaw" 130 m_Pn_page 3 0 := ⟨ok_Pn_page, (tbG_of (tm_4 (ta 59 rfl)) rfl), (tbG_of (tm_4 (ta 60 rfl)) rfl), (tbG_of (tm_4 (ta 61 rfl)) rfl), by decide +kernel, _, _, _, cl_Pn⟩
theorem k_Pn_241 : CV R_Pn 241 m_Rg_hasPlace 1 8 := ⟨ok_Rg_hasPlace, (tbG_of (tm_4 (ta 63 rfl)) rfl), (tbG_of (tm_4 (ta 64 rfl)) rfl), (tbG_of (tm_4 (ta 65 rfl)) rfl), by decide +kernel, _, _, _, cl_Rg⟩
theorem k_Rg_21 : CS R_Rg 21 m_Pn_isWithin 3 := ⟨ok_Pn_isWithin, Or.inr (by decide +kernel), (tbG_of (tm_2 (ta 34 rfl)) rfl), by decide +kernel⟩
theorem k_Pn_250 : CI R_Pn 250 m_Pg_init 1 := ⟨ok_Pg_init, Or.inl (tbG_of (tm_4 (ta 70 rfl)) rfl), (tbG_of (tm_4 (ta 71 rfl)) rfl), rfl, by decide +kernel, rfl⟩
theorem k_La_134 : CV "PromiseNamesLaw" 134 m_Pn_bind 4 0 := ⟨ok_Pn_bind, (tbG_of (tm_4 (ta 85 rfl)) rfl), (tbG_of (tm_4 (ta 86 rfl)) rfl), (tbG_of (tm_4 (ta 87 rfl)) rfl), by decide +kernel, _, _, _, cl_Pn⟩
theorem k_Pn_251 : CV R_Pn 251 m_Sh_flawOfPlaces 4 7 := ⟨ok_Sh_flawOfPlaces, (tbG_of (tm_4 (ta 89 rfl)) rfl), (tbG_of (tm_4 (ta 90 rfl)) rfl), (tbG_of (tm_4 (ta 91 rfl)) rfl), by decide +kernel, _, _, _, cl_Sh⟩
theorem k_Sh_17 : CV R_Sh 17 m_Rg_hasPlace 1 8 := ⟨ok_Rg_hasPlace, (tbG_of (tm_4 (ta 93 rfl)) rfl), (tbG_of (tm_4 (ta 64 rfl)) rfl), (tbG_of (tm_4 (ta 65 rfl)) rfl), by decide +kernel, _, _, _, cl_Rg⟩
theorem k_La_138 : CV "PromiseNamesLaw" 138 m_Pn_same 4 0 := ⟨ok_Pn_same, (tbG_of (tm_4 (ta 94 rfl)) rfl), (tbG_of (tm_4 (ta 95 rfl)) rfl), (tbG_of (tm_4 (ta 96 rfl)) rfl), by decide +kernel, _, _, _, cl_Pn⟩
theorem k_La_142 : CV "PromiseNamesLaw" 142 m_Pn_enter 5 0 := ⟨ok_Pn_enter, (tbG_of (tm_4 (ta 98 rfl)) rfl), (tbG_of (tm_4 (ta 99 rfl)) rfl), (tbG_of (tm_4 (ta 100 rfl)) rfl), by decide +kernel, _, _, _, cl_Pn⟩
theorem k_Pn_254 : CV R_Pn 254 m_Sh_flawOfLine 3 7 := ⟨ok_Sh_flawOfLine, (tbG_of (tm_4 (ta 102 rfl)) rfl), (tbG_of (tm_4 (ta 103 rfl)) rfl), (tbG_of (tm_4 (ta 104 rfl)) rfl), by decide +kernel, _, _, _, cl_Sh⟩
theorem k_Sh_21 : CV R_Sh 21 m_Sh_flawOfPlaces 4 7 := ⟨ok_Sh_flawOfPlaces, (tbG_of (tm_4 (ta 106 rfl)) rfl), (tbG_of (tm_4 (ta 90 rfl)) rfl), (tbG_of (tm_4 (ta 91 rfl)) rfl), by decide +kernel, _, _, _, cl_Sh⟩
theorem k_Sh_35 : CS R_Sh 35 m_Pn_isWithin 3 := ⟨ok_Pn_isWithin, Or.inr (by decide +kernel), (tbG_of (tm_2 (ta 34 rfl)) rfl), by decide +kernel⟩
theorem k_Pn_258 : CV R_Pn 258 m_Pg_put 3 9 := ⟨ok_Pg_put, (tbG_of (tm_4 (ta 108 rfl)) rfl), (tbG_of (tm_4 (ta 109 rfl)) rfl), (tbG_of (tm_4 (ta 110 rfl)) rfl), by decide +kernel, _, _, _, cl_Pg⟩
theorem k_La_147 : CV "PromiseNamesLaw" 147 m_Pn_read 4 0 := ⟨ok_Pn_read, (tbG_of (tm_4 (ta 112 rfl)) rfl), (tbG_of (tm_4 (ta 113 rfl)) rfl), (tbG_of (tm_4 (ta 114 rfl)) rfl), by decide +kernel, _, _, _, cl_Pn⟩
theorem k_La_151 : CV "PromiseNamesLaw" 151 m_Pn_pages 2 0 := ⟨ok_Pn_pages, (tbG_of (tm_4 (ta 117 rfl)) rfl), (tbG_of (tm_4 (ta 118 rfl)) rfl), (tbG_of (tm_4 (ta 119 rfl)) rfl), by decide +kernel, _, _, _, cl_Pn⟩
theorem k_Pn_269 : CV R_Pn 269 m_Rg_pagesThere 0 8 := ⟨ok_Rg_pagesThere, (tbG_of (tm_4 (ta 121 rfl)) rfl), (tbG_of (tm_4 (ta 122 rfl)) rfl), (tbG_of (tm_4 (ta 123 rfl)) rfl), by decide +kernel, _, _, _, cl_Rg⟩
theorem k_Pn_272 : CV R_Pn 272 m_Rg_unlikePages 0 8 := ⟨ok_Rg_unlikePages, (tbG_of (tm_4 (ta 125 rfl)) rfl), (tbG_of (tm_4 (ta 126 rfl)) rfl), (tbG_of (tm_4 (ta 127 rfl)) rfl), by decide +kernel, _, _, _, cl_Rg⟩
theorem k_Rg_27 : CV R_Rg 27 m_Rg_isFirstOfItsPage 1 8 := ⟨ok_Rg_isFirstOfItsPage, (tbG_of (tm_4 (ta 129 rfl)) rfl), (tbG_of (tm_4 (ta 131 rfl)) rfl), (tbG_of (tm_0 (ta 32 rfl)) rfl), by decide +kernel, _, _, _, cl_Rg⟩
theorem k_Pn_275 : CV R_Pn 275 m_Rg_filledLines 0 8 := ⟨ok_Rg_filledLines, (tbG_of (tm_4 (ta 133 rfl)) rfl), (tbG_of (tm_4 (ta 134 rfl)) rfl), (tbG_of (tm_4 (ta 135 rfl)) rfl), by decide +kernel, _, _, _, cl_Rg⟩
theorem k_Rg_31 : CV R_Rg 31 m_Pg_filled 0 9 := ⟨ok_Pg_filled, (tbG_of (tm_4 (ta 137 rfl)) rfl), (tbG_of (tm_4 (ta 138 rfl)) rfl), (tbG_of (tm_4 (ta 139 rfl)) rfl), by decide +kernel, _, _, _, cl_Pg⟩
theorem k_La_155 : CV "PromiseNamesLaw" 155 m_Pn_drop 1 0 := ⟨ok_Pn_drop, (tbG_of (tm_4 (ta 141 rfl)) rfl), (tbG_of (tm_4 (ta 142 rfl)) rfl), (tbG_of (tm_4 (ta 143 rfl)) rfl), by decide +kernel, _, _, _, cl_Pn⟩
theorem k_La_159 : CV "PromiseNamesLaw" 159 m_Pn_count 1 0 := ⟨ok_Pn_count, (tbG_of (tm_4 (ta 145 rfl)) rfl), (tbG_of (tm_4 (ta 146 rfl)) rfl), (tbG_of (tm_4 (ta 147 rfl)) rfl), by decide +kernel, _, _, _, cl_Pn⟩
theorem k_Pn_284 : CV R_Pn 284 m_St_deadOnes 0 3 := ⟨ok_St_deadOnes, (tbG_of (tm_4 (ta 149 rfl)) rfl), (tbG_of (tm_4 (ta 150 rfl)) rfl), (tbG_of (tm_4 (ta 151 rfl)) rfl), by decide +kernel, _, _, _, cl_St⟩
theorem k_Pn_287 : CV R_Pn 287 m_St_allDone 0 3 := ⟨ok_St_allDone, (tbG_of (tm_4 (ta 153 rfl)) rfl), (tbG_of (tm_4 (ta 154 rfl)) rfl), (tbG_of (tm_4 (ta 155 rfl)) rfl), by decide +kernel, _, _, _, cl_St⟩
theorem k_Pn_290 : CV R_Pn 290 m_Sh_registersThere 0 7 := ⟨ok_Sh_registersThere, (tbG_of (tm_4 (ta 157 rfl)) rfl), (tbG_of (tm_4 (ta 158 rfl)) rfl), (tbG_of (tm_4 (ta 159 rfl)) rfl), by decide +kernel, _, _, _, cl_Sh⟩
theorem k_La_12 : CI "PromiseNamesLaw" 12 m_Md_init 0 := ⟨ok_Md_init, Or.inl (tbG_of (tm_4 (ta 163 rfl)) rfl), (tbG_of (tm_4 (ta 164 rfl)) rfl), rfl, by decide +kernel, rfl⟩
theorem k_La_17 : CV "PromiseNamesLaw" 17 m_Md_write 1 10 := ⟨ok_Md_write, (tbG_of (tm_5 (ta 63 rfl)) rfl), (tbG_of (tm_5 (ta 64 rfl)) rfl), (tbG_of (tm_5 (ta 65 rfl)) rfl), by decide +kernel, _, _, _, cl_Md⟩
theorem k_Md_111 : CS R_Md 111 m_Md_in 3 := ⟨ok_Md_in, Or.inl (tbG_of (tm_5 (ta 68 rfl)) rfl), (tbG_of (tm_5 (ta 69 rfl)) rfl), by decide +kernel⟩
theorem k_La_22 : CV "PromiseNamesLaw" 22 m_Md_erase 0 10 := ⟨ok_Md_erase, (tbG_of (tm_5 (ta 71 rfl)) rfl), (tbG_of (tm_5 (ta 72 rfl)) rfl), (tbG_of (tm_5 (ta 73 rfl)) rfl), by decide +kernel, _, _, _, cl_Md⟩
theorem k_La_26 : CV "PromiseNamesLaw" 26 m_Md_fault 0 10 := ⟨ok_Md_fault, (tbG_of (tm_5 (ta 75 rfl)) rfl), (tbG_of (tm_5 (ta 76 rfl)) rfl), (tbG_of (tm_5 (ta 77 rfl)) rfl), by decide +kernel, _, _, _, cl_Md⟩
theorem k_Md_216 : CV R_Md 216 m_Md_readsAll 0 10 := ⟨ok_Md_readsAll, (tbG_of (tm_5 (ta 79 rfl)) rfl), (tbG_of (tm_5 (ta 81 rfl)) rfl), (tbG_of (tm_0 (ta 33 rfl)) rfl), by decide +kernel, _, _, _, cl_Md⟩
theorem k_Md_207 : CV R_Md 207 m_Md_tellsAll 0 10 := ⟨ok_Md_tellsAll, (tbG_of (tm_5 (ta 83 rfl)) rfl), (tbG_of (tm_5 (ta 85 rfl)) rfl), (tbG_of (tm_0 (ta 34 rfl)) rfl), by decide +kernel, _, _, _, cl_Md⟩
theorem k_Md_147 : CV R_Md 147 m_Md_looks 0 10 := ⟨ok_Md_looks, (tbG_of (tm_5 (ta 87 rfl)) rfl), (tbG_of (tm_5 (ta 89 rfl)) rfl), (tbG_of (tm_0 (ta 35 rfl)) rfl), by decide +kernel, _, _, _, cl_Md⟩
theorem k_Md_143 : CS R_Md 143 m_Md_sortOf 1 := ⟨ok_Md_sortOf, Or.inl (tbG_of (tm_5 (ta 91 rfl)) rfl), (tbG_of (tm_5 (ta 92 rfl)) rfl), by decide +kernel⟩
theorem k_Md_213 : CV R_Md 213 m_Md_takesClause 0 10 := ⟨ok_Md_takesClause, (tbG_of (tm_5 (ta 98 rfl)) rfl), (tbG_of (tm_5 (ta 100 rfl)) rfl), (tbG_of (tm_0 (ta 36 rfl)) rfl), by decide +kernel, _, _, _, cl_Md⟩
theorem k_Md_190 : CV R_Md 190 m_Md_wordAtHand 0 10 := ⟨ok_Md_wordAtHand, (tbG_of (tm_5 (ta 102 rfl)) rfl), (tbG_of (tm_5 (ta 104 rfl)) rfl), (tbG_of (tm_0 (ta 37 rfl)) rfl), by decide +kernel, _, _, _, cl_Md⟩
theorem k_Md_158 : CV R_Md 158 m_Md_isWord 2 10 := ⟨ok_Md_isWord, (tbG_of (tm_5 (ta 107 rfl)) rfl), (tbG_of (tm_5 (ta 109 rfl)) rfl), (tbG_of (tm_0 (ta 38 rfl)) rfl), by decide +kernel, _, _, _, cl_Md⟩
theorem k_Md_194 : CV R_Md 194 m_Md_takesPromise 1 10 := ⟨ok_Md_takesPromise, (tbG_of (tm_5 (ta 118 rfl)) rfl), (tbG_of (tm_5 (ta 120 rfl)) rfl), (tbG_of (tm_0 (ta 39 rfl)) rfl), by decide +kernel, _, _, _, cl_Md⟩
theorem k_Md_153 : CV R_Md 153 m_Md_passesToken 0 10 := ⟨ok_Md_passesToken, (tbG_of (tm_5 (ta 122 rfl)) rfl), (tbG_of (tm_5 (ta 124 rfl)) rfl), (tbG_of (tm_0 (ta 40 rfl)) rfl), by decide +kernel, _, _, _, cl_Md⟩
theorem k_Md_179 : CV R_Md 179 m_Md_takesNumber 2 10 := ⟨ok_Md_takesNumber, (tbG_of (tm_5 (ta 126 rfl)) rfl), (tbG_of (tm_5 (ta 128 rfl)) rfl), (tbG_of (tm_0 (ta 41 rfl)) rfl), by decide +kernel, _, _, _, cl_Md⟩
theorem k_Md_186 : CV R_Md 186 m_Md_takesNeeds 0 10 := ⟨ok_Md_takesNeeds, (tbG_of (tm_5 (ta 130 rfl)) rfl), (tbG_of (tm_5 (ta 132 rfl)) rfl), (tbG_of (tm_0 (ta 42 rfl)) rfl), by decide +kernel, _, _, _, cl_Md⟩
theorem k_Md_198 : CV R_Md 198 m_Md_takesMan 0 10 := ⟨ok_Md_takesMan, (tbG_of (tm_5 (ta 134 rfl)) rfl), (tbG_of (tm_5 (ta 136 rfl)) rfl), (tbG_of (tm_0 (ta 43 rfl)) rfl), by decide +kernel, _, _, _, cl_Md⟩
theorem k_Md_201 : CV R_Md 201 m_Md_takesStrife 0 10 := ⟨ok_Md_takesStrife, (tbG_of (tm_5 (ta 138 rfl)) rfl), (tbG_of (tm_5 (ta 140 rfl)) rfl), (tbG_of (tm_0 (ta 44 rfl)) rfl), by decide +kernel, _, _, _, cl_Md⟩
theorem k_Md_204 : CV R_Md 204 m_Md_takesParish 0 10 := ⟨ok_Md_takesParish, (tbG_of (tm_5 (ta 142 rfl)) rfl), (tbG_of (tm_5 (ta 144 rfl)) rfl), (tbG_of (tm_0 (ta 45 rfl)) rfl), by decide +kernel, _, _, _, cl_Md⟩
theorem k_La_30 : CV "PromiseNamesLaw" 30 m_Md_parish 0 10 := ⟨ok_Md_parish, (tbG_of (tm_5 (ta 146 rfl)) rfl), (tbG_of (tm_5 (ta 147 rfl)) rfl), (tbG_of (tm_5 (ta 148 rfl)) rfl), by decide +kernel, _, _, _, cl_Md⟩
theorem k_Md_223 : CV R_Md 223 m_Md_begins 0 10 := ⟨ok_Md_begins, (tbG_of (tm_5 (ta 150 rfl)) rfl), (tbG_of (tm_5 (ta 152 rfl)) rfl), (tbG_of (tm_0 (ta 46 rfl)) rfl), by decide +kernel, _, _, _, cl_Md⟩
theorem k_Md_219 : CV R_Md 219 m_Md_joins 3 10 := ⟨ok_Md_joins, (tbG_of (tm_5 (ta 154 rfl)) rfl), (tbG_of (tm_5 (ta 156 rfl)) rfl), (tbG_of (tm_0 (ta 47 rfl)) rfl), by decide +kernel, _, _, _, cl_Md⟩
theorem k_La_35 : CV "PromiseNamesLaw" 35 m_Md_person 2 10 := ⟨ok_Md_person, (tbG_of (tm_5 (ta 158 rfl)) rfl), (tbG_of (tm_5 (ta 159 rfl)) rfl), (tbG_of (tm_5 (ta 160 rfl)) rfl), by decide +kernel, _, _, _, cl_Md⟩
theorem k_Md_256 : CV R_Md 256 m_Md_isPerson 1 10 := ⟨ok_Md_isPerson, (tbG_of (tm_5 (ta 162 rfl)) rfl), (tbG_of (tm_5 (ta 164 rfl)) rfl), (tbG_of (tm_0 (ta 48 rfl)) rfl), by decide +kernel, _, _, _, cl_Md⟩
theorem k_La_39 : CV "PromiseNamesLaw" 39 m_Md_holds 2 10 := ⟨ok_Md_holds, (tbG_of (tm_5 (ta 166 rfl)) rfl), (tbG_of (tm_5 (ta 167 rfl)) rfl), (tbG_of (tm_5 (ta 168 rfl)) rfl), by decide +kernel, _, _, _, cl_Md⟩
theorem k_La_43 : CV "PromiseNamesLaw" 43 m_Md_promise 2 10 := ⟨ok_Md_promise, (tbG_of (tm_5 (ta 170 rfl)) rfl), (tbG_of (tm_5 (ta 171 rfl)) rfl), (tbG_of (tm_5 (ta 172 rfl)) rfl), by decide +kernel, _, _, _, cl_Md⟩
theorem k_Md_259 : CV R_Md 259 m_Md_isPromise 1 10 := ⟨ok_Md_isPromise, (tbG_of (tm_5 (ta 174 rfl)) rfl), (tbG_of (tm_5 (ta 176 rfl)) rfl), (tbG_of (tm_0 (ta 49 rfl)) rfl), by decide +kernel, _, _, _, cl_Md⟩
theorem k_Md_262 : CV R_Md 262 m_Md_holderIn 2 10 := ⟨ok_Md_holderIn, (tbG_of (tm_5 (ta 178 rfl)) rfl), (tbG_of (tm_5 (ta 180 rfl)) rfl), (tbG_of (tm_0 (ta 50 rfl)) rfl), by decide +kernel, _, _, _, cl_Md⟩
theorem k_Md_232 : CV R_Md 232 m_Md_placeIn 3 10 := ⟨ok_Md_placeIn, (tbG_of (tm_5 (ta 182 rfl)) rfl), (tbG_of (tm_5 (ta 184 rfl)) rfl), (tbG_of (tm_0 (ta 51 rfl)) rfl), by decide +kernel, _, _, _, cl_Md⟩
theorem k_Md_245 : CV R_Md 245 m_Md_isOpen 2 10 := ⟨ok_Md_isOpen, (tbG_of (tm_5 (ta 186 rfl)) rfl), (tbG_of (tm_5 (ta 188 rfl)) rfl), (tbG_of (tm_0 (ta 52 rfl)) rfl), by decide +kernel, _, _, _, cl_Md⟩
theorem k_Md_236 : CS R_Md 236 m_Md_has 2 := ⟨ok_Md_has, Or.inl (tbG_of (tm_5 (ta 190 rfl)) rfl), (tbG_of (tm_5 (ta 191 rfl)) rfl), by decide +kernel⟩
theorem k_La_47 : CV "PromiseNamesLaw" 47 m_Md_as 2 10 := ⟨ok_Md_as, (tbG_of (tm_5 (ta 193 rfl)) rfl), (tbG_of (tm_5 (ta 194 rfl)) rfl), (tbG_of (tm_5 (ta 195 rfl)) rfl), by decide +kernel, _, _, _, cl_Md⟩
theorem k_Md_267 : CS R_Md 267 m_Md_isA 2 := ⟨ok_Md_isA, Or.inl (tbG_of (tm_5 (ta 198 rfl)) rfl), (tbG_of (tm_5 (ta 199 rfl)) rfl), by decide +kernel⟩
theorem k_Md_248 : CS R_Md 248 m_Md_does 2 := ⟨ok_Md_does, Or.inl (tbG_of (tm_5 (ta 201 rfl)) rfl), (tbG_of (tm_5 (ta 202 rfl)) rfl), by decide +kernel⟩
theorem k_La_51 : CV "PromiseNamesLaw" 51 m_Md_year 1 10 := ⟨ok_Md_year, (tbG_of (tm_5 (ta 204 rfl)) rfl), (tbG_of (tm_5 (ta 205 rfl)) rfl), (tbG_of (tm_5 (ta 206 rfl)) rfl), by decide +kernel, _, _, _, cl_Md⟩
theorem k_Md_275 : CV R_Md 275 m_Md_minds 0 10 := ⟨ok_Md_minds, (tbG_of (tm_5 (ta 209 rfl)) rfl), (tbG_of (tm_5 (ta 211 rfl)) rfl), (tbG_of (tm_0 (ta 53 rfl)) rfl), by decide +kernel, _, _, _, cl_Md⟩
theorem k_Md_270 : CV R_Md 270 m_Md_bring 2 10 := ⟨ok_Md_bring, (tbG_of (tm_5 (ta 213 rfl)) rfl), (tbG_of (tm_5 (ta 215 rfl)) rfl), (tbG_of (tm_0 (ta 54 rfl)) rfl), by decide +kernel, _, _, _, cl_Md⟩
theorem k_Md_278 : CV R_Md 278 m_Md_passesYear 1 10 := ⟨ok_Md_passesYear, (tbG_of (tm_5 (ta 217 rfl)) rfl), (tbG_of (tm_5 (ta 219 rfl)) rfl), (tbG_of (tm_0 (ta 55 rfl)) rfl), by decide +kernel, _, _, _, cl_Md⟩
theorem k_Md_242 : CV R_Md 242 m_Md_becomesKept 3 10 := ⟨ok_Md_becomesKept, (tbG_of (tm_5 (ta 221 rfl)) rfl), (tbG_of (tm_5 (ta 223 rfl)) rfl), (tbG_of (tm_0 (ta 56 rfl)) rfl), by decide +kernel, _, _, _, cl_Md⟩
theorem k_Md_239 : CV R_Md 239 m_Md_leavesOne 3 10 := ⟨ok_Md_leavesOne, (tbG_of (tm_5 (ta 225 rfl)) rfl), (tbG_of (tm_5 (ta 227 rfl)) rfl), (tbG_of (tm_0 (ta 57 rfl)) rfl), by decide +kernel, _, _, _, cl_Md⟩
theorem k_Md_252 : CV R_Md 252 m_Md_dies 2 10 := ⟨ok_Md_dies, (tbG_of (tm_5 (ta 229 rfl)) rfl), (tbG_of (tm_5 (ta 231 rfl)) rfl), (tbG_of (tm_0 (ta 58 rfl)) rfl), by decide +kernel, _, _, _, cl_Md⟩
theorem k_La_55 : CV "PromiseNamesLaw" 55 m_Md_give 2 10 := ⟨ok_Md_give, (tbG_of (tm_5 (ta 233 rfl)) rfl), (tbG_of (tm_5 (ta 234 rfl)) rfl), (tbG_of (tm_5 (ta 235 rfl)) rfl), by decide +kernel, _, _, _, cl_Md⟩
theorem k_La_59 : CV "PromiseNamesLaw" 59 m_Md_shorten 1 10 := ⟨ok_Md_shorten, (tbG_of (tm_5 (ta 237 rfl)) rfl), (tbG_of (tm_5 (ta 238 rfl)) rfl), (tbG_of (tm_5 (ta 239 rfl)) rfl), by decide +kernel, _, _, _, cl_Md⟩
theorem k_La_63 : CV "PromiseNamesLaw" 63 m_Md_ahead 1 10 := ⟨ok_Md_ahead, (tbG_of (tm_6 (ta 1 rfl)) rfl), (tbG_of (tm_6 (ta 2 rfl)) rfl), (tbG_of (tm_6 (ta 3 rfl)) rfl), by decide +kernel, _, _, _, cl_Md⟩
theorem k_La_67 : CV "PromiseNamesLaw" 67 m_Md_undo 0 10 := ⟨ok_Md_undo, (tbG_of (tm_6 (ta 5 rfl)) rfl), (tbG_of (tm_6 (ta 6 rfl)) rfl), (tbG_of (tm_6 (ta 7 rfl)) rfl), by decide +kernel, _, _, _, cl_Md⟩
theorem k_La_71 : CV "PromiseNamesLaw" 71 m_Md_keep 1 10 := ⟨ok_Md_keep, (tbG_of (tm_6 (ta 9 rfl)) rfl), (tbG_of (tm_6 (ta 10 rfl)) rfl), (tbG_of (tm_6 (ta 11 rfl)) rfl), by decide +kernel, _, _, _, cl_Md⟩
theorem k_La_75 : CV "PromiseNamesLaw" 75 m_Md_back 1 10 := ⟨ok_Md_back, (tbG_of (tm_6 (ta 13 rfl)) rfl), (tbG_of (tm_6 (ta 14 rfl)) rfl), (tbG_of (tm_6 (ta 15 rfl)) rfl), by decide +kernel, _, _, _, cl_Md⟩
theorem k_La_80 : CV "PromiseNamesLaw" 80 m_Md_behind 3 10 := ⟨ok_Md_behind, (tbG_of (tm_6 (ta 17 rfl)) rfl), (tbG_of (tm_6 (ta 18 rfl)) rfl), (tbG_of (tm_6 (ta 19 rfl)) rfl), by decide +kernel, _, _, _, cl_Md⟩
theorem k_Md_284 : CV R_Md 284 m_Md_tries 0 10 := ⟨ok_Md_tries, (tbG_of (tm_6 (ta 22 rfl)) rfl), (tbG_of (tm_6 (ta 24 rfl)) rfl), (tbG_of (tm_0 (ta 59 rfl)) rfl), by decide +kernel, _, _, _, cl_Md⟩
theorem k_Md_287 : CV R_Md 287 m_Md_goesOn 1 10 := ⟨ok_Md_goesOn, (tbG_of (tm_6 (ta 26 rfl)) rfl), (tbG_of (tm_6 (ta 28 rfl)) rfl), (tbG_of (tm_0 (ta 60 rfl)) rfl), by decide +kernel, _, _, _, cl_Md⟩
theorem k_La_84 : CV "PromiseNamesLaw" 84 m_Md_keeps 1 10 := ⟨ok_Md_keeps, (tbG_of (tm_6 (ta 30 rfl)) rfl), (tbG_of (tm_6 (ta 31 rfl)) rfl), (tbG_of (tm_6 (ta 32 rfl)) rfl), by decide +kernel, _, _, _, cl_Md⟩
theorem k_La_88 : CV "PromiseNamesLaw" 88 m_Md_just 1 10 := ⟨ok_Md_just, (tbG_of (tm_6 (ta 34 rfl)) rfl), (tbG_of (tm_6 (ta 35 rfl)) rfl), (tbG_of (tm_6 (ta 36 rfl)) rfl), by decide +kernel, _, _, _, cl_Md⟩
theorem k_La_92 : CV "PromiseNamesLaw" 92 m_Md_stuck 0 10 := ⟨ok_Md_stuck, (tbG_of (tm_6 (ta 38 rfl)) rfl), (tbG_of (tm_6 (ta 39 rfl)) rfl), (tbG_of (tm_6 (ta 40 rfl)) rfl), by decide +kernel, _, _, _, cl_Md⟩
theorem k_La_96 : CV "PromiseNamesLaw" 96 m_Md_order 3 10 := ⟨ok_Md_order, (tbG_of (tm_6 (ta 42 rfl)) rfl), (tbG_of (tm_6 (ta 43 rfl)) rfl), (tbG_of (tm_6 (ta 44 rfl)) rfl), by decide +kernel, _, _, _, cl_Md⟩
theorem k_Md_295 : CV R_Md 295 m_Md_bestOrder 2 10 := ⟨ok_Md_bestOrder, (tbG_of (tm_6 (ta 47 rfl)) rfl), (tbG_of (tm_6 (ta 49 rfl)) rfl), (tbG_of (tm_0 (ta 61 rfl)) rfl), by decide +kernel, _, _, _, cl_Md⟩
theorem k_Md_290 : CS R_Md 290 m_Md_ones 1 := ⟨ok_Md_ones, Or.inl (tbG_of (tm_6 (ta 51 rfl)) rfl), (tbG_of (tm_6 (ta 52 rfl)) rfl), by decide +kernel⟩
theorem k_La_100 : CV "PromiseNamesLaw" 100 m_Md_godfathers 2 10 := ⟨ok_Md_godfathers, (tbG_of (tm_6 (ta 54 rfl)) rfl), (tbG_of (tm_6 (ta 55 rfl)) rfl), (tbG_of (tm_6 (ta 56 rfl)) rfl), by decide +kernel, _, _, _, cl_Md⟩
theorem k_La_104 : CV "PromiseNamesLaw" 104 m_Md_peace 0 10 := ⟨ok_Md_peace, (tbG_of (tm_6 (ta 60 rfl)) rfl), (tbG_of (tm_6 (ta 61 rfl)) rfl), (tbG_of (tm_6 (ta 62 rfl)) rfl), by decide +kernel, _, _, _, cl_Md⟩
theorem k_La_109 : CV "PromiseNamesLaw" 109 m_Md_idle 4 10 := ⟨ok_Md_idle, (tbG_of (tm_6 (ta 64 rfl)) rfl), (tbG_of (tm_6 (ta 65 rfl)) rfl), (tbG_of (tm_6 (ta 66 rfl)) rfl), by decide +kernel, _, _, _, cl_Md⟩
theorem k_La_113 : CV "PromiseNamesLaw" 113 m_Md_seen 3 10 := ⟨ok_Md_seen, (tbG_of (tm_6 (ta 70 rfl)) rfl), (tbG_of (tm_6 (ta 71 rfl)) rfl), (tbG_of (tm_6 (ta 72 rfl)) rfl), by decide +kernel, _, _, _, cl_Md⟩
theorem k_La_117 : CV "PromiseNamesLaw" 117 m_Md_forget 0 10 := ⟨ok_Md_forget, (tbG_of (tm_6 (ta 75 rfl)) rfl), (tbG_of (tm_6 (ta 76 rfl)) rfl), (tbG_of (tm_6 (ta 77 rfl)) rfl), by decide +kernel, _, _, _, cl_Md⟩
theorem k_La_121 : CV "PromiseNamesLaw" 121 m_Md_kinds 0 10 := ⟨ok_Md_kinds, (tbG_of (tm_6 (ta 79 rfl)) rfl), (tbG_of (tm_6 (ta 80 rfl)) rfl), (tbG_of (tm_6 (ta 81 rfl)) rfl), by decide +kernel, _, _, _, cl_Md⟩
theorem k_La_125 : CV "PromiseNamesLaw" 125 m_Md_attempt 0 10 := ⟨ok_Md_attempt, (tbG_of (tm_6 (ta 83 rfl)) rfl), (tbG_of (tm_6 (ta 84 rfl)) rfl), (tbG_of (tm_6 (ta 85 rfl)) rfl), by decide +kernel, _, _, _, cl_Md⟩
theorem k_Md_308 : CV R_Md 308 m_Md_kinds 0 10 := ⟨ok_Md_kinds, (tbG_of (tm_6 (ta 87 rfl)) rfl), (tbG_of (tm_6 (ta 80 rfl)) rfl), (tbG_of (tm_6 (ta 81 rfl)) rfl), by decide +kernel, _, _, _, cl_Md⟩
theorem k_La_129 : CV "PromiseNamesLaw" 129 m_Md_register 2 10 := ⟨ok_Md_register, (tbG_of (tm_6 (ta 88 rfl)) rfl), (tbG_of (tm_6 (ta 89 rfl)) rfl), (tbG_of (tm_6 (ta 90 rfl)) rfl), by decide +kernel, _, _, _, cl_Md⟩
theorem k_Md_311 : CS R_Md 311 m_Md_isRegister 1 := ⟨ok_Md_isRegister, Or.inl (tbG_of (tm_6 (ta 92 rfl)) rfl), (tbG_of (tm_6 (ta 93 rfl)) rfl), by decide +kernel⟩
theorem k_La_133 : CV "PromiseNamesLaw" 133 m_Md_page 3 10 := ⟨ok_Md_page, (tbG_of (tm_6 (ta 95 rfl)) rfl), (tbG_of (tm_6 (ta 96 rfl)) rfl), (tbG_of (tm_6 (ta 97 rfl)) rfl), by decide +kernel, _, _, _, cl_Md⟩
theorem k_Md_314 : CV R_Md 314 m_Md_freePage 0 10 := ⟨ok_Md_freePage, (tbG_of (tm_6 (ta 99 rfl)) rfl), (tbG_of (tm_6 (ta 101 rfl)) rfl), (tbG_of (tm_0 (ta 62 rfl)) rfl), by decide +kernel, _, _, _, cl_Md⟩
theorem k_La_137 : CV "PromiseNamesLaw" 137 m_Md_bind 4 10 := ⟨ok_Md_bind, (tbG_of (tm_6 (ta 103 rfl)) rfl), (tbG_of (tm_6 (ta 104 rfl)) rfl), (tbG_of (tm_6 (ta 105 rfl)) rfl), by decide +kernel, _, _, _, cl_Md⟩
theorem k_Md_317 : CV R_Md 317 m_Md_againstTwo 4 10 := ⟨ok_Md_againstTwo, (tbG_of (tm_6 (ta 107 rfl)) rfl), (tbG_of (tm_6 (ta 109 rfl)) rfl), (tbG_of (tm_0 (ta 63 rfl)) rfl), by decide +kernel, _, _, _, cl_Md⟩
theorem k_La_141 : CV "PromiseNamesLaw" 141 m_Md_same 4 10 := ⟨ok_Md_same, (tbG_of (tm_6 (ta 111 rfl)) rfl), (tbG_of (tm_6 (ta 112 rfl)) rfl), (tbG_of (tm_6 (ta 113 rfl)) rfl), by decide +kernel, _, _, _, cl_Md⟩
theorem k_La_146 : CV "PromiseNamesLaw" 146 m_Md_enter 5 10 := ⟨ok_Md_enter, (tbG_of (tm_6 (ta 115 rfl)) rfl), (tbG_of (tm_6 (ta 116 rfl)) rfl), (tbG_of (tm_6 (ta 117 rfl)) rfl), by decide +kernel, _, _, _, cl_Md⟩
theorem k_Md_325 : CV R_Md 325 m_Md_againstLine 3 10 := ⟨ok_Md_againstLine, (tbG_of (tm_6 (ta 121 rfl)) rfl), (tbG_of (tm_6 (ta 123 rfl)) rfl), (tbG_of (tm_0 (ta 64 rfl)) rfl), by decide +kernel, _, _, _, cl_Md⟩
theorem k_La_150 : CV "PromiseNamesLaw" 150 m_Md_read 4 10 := ⟨ok_Md_read, (tbG_of (tm_6 (ta 125 rfl)) rfl), (tbG_of (tm_6 (ta 126 rfl)) rfl), (tbG_of (tm_6 (ta 127 rfl)) rfl), by decide +kernel, _, _, _, cl_Md⟩
theorem k_La_154 : CV "PromiseNamesLaw" 154 m_Md_pages 2 10 := ⟨ok_Md_pages, (tbG_of (tm_6 (ta 130 rfl)) rfl), (tbG_of (tm_6 (ta 131 rfl)) rfl), (tbG_of (tm_6 (ta 132 rfl)) rfl), by decide +kernel, _, _, _, cl_Md⟩
theorem k_La_158 : CV "PromiseNamesLaw" 158 m_Md_drop 1 10 := ⟨ok_Md_drop, (tbG_of (tm_6 (ta 135 rfl)) rfl), (tbG_of (tm_6 (ta 136 rfl)) rfl), (tbG_of (tm_6 (ta 137 rfl)) rfl), by decide +kernel, _, _, _, cl_Md⟩
theorem k_La_162 : CV "PromiseNamesLaw" 162 m_Md_count 1 10 := ⟨ok_Md_count, (tbG_of (tm_6 (ta 139 rfl)) rfl), (tbG_of (tm_6 (ta 140 rfl)) rfl), (tbG_of (tm_6 (ta 141 rfl)) rfl), by decide +kernel, _, _, _, cl_Md⟩
theorem k_Md_331 : CV R_Md 331 m_Md_dead 0 10 := ⟨ok_Md_dead, (tbG_of (tm_6 (ta 143 rfl)) rfl), (tbG_of (tm_6 (ta 145 rfl)) rfl), (tbG_of (tm_0 (ta 65 rfl)) rfl), by decide +kernel, _, _, _, cl_Md⟩
theorem k_Md_334 : CV R_Md 334 m_Md_doneAll 0 10 := ⟨ok_Md_doneAll, (tbG_of (tm_6 (ta 147 rfl)) rfl), (tbG_of (tm_6 (ta 149 rfl)) rfl), (tbG_of (tm_0 (ta 66 rfl)) rfl), by decide +kernel, _, _, _, cl_Md⟩
theorem k_Md_337 : CV R_Md 337 m_Md_registersThere 0 10 := ⟨ok_Md_registersThere, (tbG_of (tm_6 (ta 151 rfl)) rfl), (tbG_of (tm_6 (ta 153 rfl)) rfl), (tbG_of (tm_0 (ta 67 rfl)) rfl), by decide +kernel, _, _, _, cl_Md⟩
theorem n_La_7 : NL "PromiseNamesLaw" 7 0 10 := ⟨R_Pn, F_Pn, t_Pn, cl_Pn, (tbG_of (tm_1 (ta 21 rfl)) rfl), (tbG_of (tm_1 (ta 22 rfl)) rfl), (tbG_of (tm_1 (ta 1 rfl)) rfl)⟩
theorem w_La_7 : Cond.classLink "PromiseNamesLaw" 7 R_Pn ∈ tbG := (tbG_of (tm_1 (ta 21 rfl)) rfl)
theorem o_Pn_1 : Cond.methodLink R_Pn 1 Lib.objectInit ∈ tbG := (tbG_of (tm_1 (ta 26 rfl)) rfl)
theorem n_Pn_7 : NL R_Pn 7 1 10 := ⟨R_Tl, F_Tl, t_Tl, cl_Tl, (tbG_of (tm_1 (ta 29 rfl)) rfl), (tbG_of (tm_1 (ta 30 rfl)) rfl), (tbG_of (tm_1 (ta 2 rfl)) rfl)⟩
theorem w_Pn_7 : Cond.classLink R_Pn 7 R_Tl ∈ tbG := (tbG_of (tm_1 (ta 29 rfl)) rfl)
theorem o_Tl_3 : Cond.methodLink R_Tl 3 Lib.objectInit ∈ tbG := (tbG_of (tm_1 (ta 34 rfl)) rfl)
theorem n_Pn_19 : NL R_Pn 19 2 6 := ⟨R_Rd, F_Rd, t_Rd, cl_Rd, (tbG_of (tm_1 (ta 86 rfl)) rfl), (tbG_of (tm_1 (ta 87 rfl)) rfl), (tbG_of (tm_1 (ta 3 rfl)) rfl)⟩
theorem w_Pn_19 : Cond.classLink R_Pn 19 R_Rd ∈ tbG := (tbG_of (tm_1 (ta 86 rfl)) rfl)
theorem o_Rd_3 : Cond.methodLink R_Rd 3 Lib.objectInit ∈ tbG := (tbG_of (tm_1 (ta 91 rfl)) rfl)
theorem n_Pn_26 : NL R_Pn 26 3 8 := ⟨R_St, F_St, t_St, cl_St, (tbG_of (tm_1 (ta 113 rfl)) rfl), (tbG_of (tm_1 (ta 114 rfl)) rfl), (tbG_of (tm_1 (ta 4 rfl)) rfl)⟩
theorem w_Pn_26 : Cond.classLink R_Pn 26 R_St ∈ tbG := (tbG_of (tm_1 (ta 113 rfl)) rfl)
theorem o_St_3 : Cond.methodLink R_St 3 Lib.objectInit ∈ tbG := (tbG_of (tm_1 (ta 118 rfl)) rfl)
theorem n_Pn_35 : NL R_Pn 35 4 3 := ⟨R_Ps, F_Ps, t_Ps, cl_Ps, (tbG_of (tm_1 (ta 154 rfl)) rfl), (tbG_of (tm_1 (ta 155 rfl)) rfl), (tbG_of (tm_1 (ta 5 rfl)) rfl)⟩
theorem w_Pn_35 : Cond.classLink R_Pn 35 R_Ps ∈ tbG := (tbG_of (tm_1 (ta 154 rfl)) rfl)
theorem o_Ps_1 : Cond.methodLink R_Ps 1 Lib.objectInit ∈ tbG := (tbG_of (tm_1 (ta 159 rfl)) rfl)
theorem n_Ps_9 : NL R_Ps 9 3 8 := ⟨R_St, F_St, t_St, cl_St, (tbG_of (tm_1 (ta 160 rfl)) rfl), (tbG_of (tm_1 (ta 114 rfl)) rfl), (tbG_of (tm_1 (ta 4 rfl)) rfl)⟩
theorem w_Ps_9 : Cond.classLink R_Ps 9 R_St ∈ tbG := (tbG_of (tm_1 (ta 160 rfl)) rfl)
theorem n_Pn_50 : NL R_Pn 50 5 7 := ⟨R_Fo, F_Fo, t_Fo, cl_Fo, (tbG_of (tm_1 (ta 174 rfl)) rfl), (tbG_of (tm_1 (ta 175 rfl)) rfl), (tbG_of (tm_1 (ta 6 rfl)) rfl)⟩
theorem w_Pn_50 : Cond.classLink R_Pn 50 R_Fo ∈ tbG := (tbG_of (tm_1 (ta 174 rfl)) rfl)
theorem o_Fo_3 : Cond.methodLink R_Fo 3 Lib.objectInit ∈ tbG := (tbG_of (tm_1 (ta 179 rfl)) rfl)
theorem n_Fo_25 : NL R_Fo 25 3 8 := ⟨R_St, F_St, t_St, cl_St, (tbG_of (tm_1 (ta 180 rfl)) rfl), (tbG_of (tm_1 (ta 114 rfl)) rfl), (tbG_of (tm_1 (ta 4 rfl)) rfl)⟩
theorem w_Fo_25 : Cond.classLink R_Fo 25 R_St ∈ tbG := (tbG_of (tm_1 (ta 180 rfl)) rfl)
theorem n_Pn_57 : NL R_Pn 57 6 4 := ⟨R_Sg, F_Sg, t_Sg, cl_Sg, (tbG_of (tm_1 (ta 205 rfl)) rfl), (tbG_of (tm_1 (ta 206 rfl)) rfl), (tbG_of (tm_1 (ta 7 rfl)) rfl)⟩
theorem w_Pn_57 : Cond.classLink R_Pn 57 R_Sg ∈ tbG := (tbG_of (tm_1 (ta 205 rfl)) rfl)
theorem o_Sg_3 : Cond.methodLink R_Sg 3 Lib.objectInit ∈ tbG := (tbG_of (tm_1 (ta 210 rfl)) rfl)
theorem n_Pn_64 : NL R_Pn 64 7 1 := ⟨R_Sh, F_Sh, t_Sh, cl_Sh, (tbG_of (tm_1 (ta 225 rfl)) rfl), (tbG_of (tm_1 (ta 226 rfl)) rfl), (tbG_of (tm_1 (ta 8 rfl)) rfl)⟩
theorem w_Pn_64 : Cond.classLink R_Pn 64 R_Sh ∈ tbG := (tbG_of (tm_1 (ta 225 rfl)) rfl)
theorem o_Sh_3 : Cond.methodLink R_Sh 3 Lib.objectInit ∈ tbG := (tbG_of (tm_1 (ta 230 rfl)) rfl)
theorem n_Sh_11 : NL R_Sh 11 8 1 := ⟨R_Rg, F_Rg, t_Rg, cl_Rg, (tbG_of (tm_1 (ta 231 rfl)) rfl), (tbG_of (tm_4 (ta 45 rfl)) rfl), (tbG_of (tm_1 (ta 19 rfl)) rfl)⟩
theorem w_Sh_11 : Cond.classLink R_Sh 11 R_Rg ∈ tbG := (tbG_of (tm_1 (ta 231 rfl)) rfl)
theorem a_Tl_43 : Cond.methodLink R_Tl 43 arraycopyName ∈ tbG := (tbG_of (tm_2 (ta 52 rfl)) rfl)
theorem z_Rd_122 : Cond.methodLink R_Rd 122 Lib.Math.min.name ∈ tbG := (tbG_of (tm_2 (ta 63 rfl)) rfl)
theorem a_St_34 : Cond.methodLink R_St 34 arraycopyName ∈ tbG := (tbG_of (tm_2 (ta 209 rfl)) rfl)
theorem z_Ps_29 : Cond.methodLink R_Ps 29 Lib.Math.min.name ∈ tbG := (tbG_of (tm_3 (ta 31 rfl)) rfl)
theorem q_In_265 : Cond.constant "java/lang/Integer" 265 1431655765 ∈ tbG := (tbG_of (tm_3 (ta 169 rfl)) rfl)
theorem q_In_266 : Cond.constant "java/lang/Integer" 266 858993459 ∈ tbG := (tbG_of (tm_3 (ta 170 rfl)) rfl)
theorem q_In_267 : Cond.constant "java/lang/Integer" 267 252645135 ∈ tbG := (tbG_of (tm_3 (ta 171 rfl)) rfl)
theorem a_Fo_90 : Cond.methodLink R_Fo 90 arraycopyName ∈ tbG := (tbG_of (tm_3 (ta 172 rfl)) rfl)
theorem z_Fo_100 : Cond.methodLink R_Fo 100 Lib.Math.min.name ∈ tbG := (tbG_of (tm_3 (ta 194 rfl)) rfl)
theorem z_Sg_44 : Cond.methodLink R_Sg 44 Lib.Math.max.name ∈ tbG := (tbG_of (tm_4 (ta 34 rfl)) rfl)
theorem n_Pn_237 : NL R_Pn 237 8 1 := ⟨R_Rg, F_Rg, t_Rg, cl_Rg, (tbG_of (tm_4 (ta 44 rfl)) rfl), (tbG_of (tm_4 (ta 45 rfl)) rfl), (tbG_of (tm_1 (ta 19 rfl)) rfl)⟩
theorem w_Pn_237 : Cond.classLink R_Pn 237 R_Rg ∈ tbG := (tbG_of (tm_4 (ta 44 rfl)) rfl)
theorem o_Rg_1 : Cond.methodLink R_Rg 1 Lib.objectInit ∈ tbG := (tbG_of (tm_4 (ta 49 rfl)) rfl)
theorem z_Rg_7 : Cond.methodLink R_Rg 7 Lib.Math.max.name ∈ tbG := (tbG_of (tm_4 (ta 50 rfl)) rfl)
theorem n_Rg_13 : NL R_Rg 13 9 2 := ⟨R_Pg, F_Pg, t_Pg, cl_Pg, (tbG_of (tm_4 (ta 51 rfl)) rfl), (tbG_of (tm_4 (ta 69 rfl)) rfl), (tbG_of (tm_1 (ta 20 rfl)) rfl)⟩
theorem w_Rg_13 : Cond.classLink R_Rg 13 R_Pg ∈ tbG := (tbG_of (tm_4 (ta 51 rfl)) rfl)
theorem n_Pn_248 : NL R_Pn 248 9 2 := ⟨R_Pg, F_Pg, t_Pg, cl_Pg, (tbG_of (tm_4 (ta 68 rfl)) rfl), (tbG_of (tm_4 (ta 69 rfl)) rfl), (tbG_of (tm_1 (ta 20 rfl)) rfl)⟩
theorem w_Pn_248 : Cond.classLink R_Pn 248 R_Pg ∈ tbG := (tbG_of (tm_4 (ta 68 rfl)) rfl)
theorem o_Pg_1 : Cond.methodLink R_Pg 1 Lib.objectInit ∈ tbG := (tbG_of (tm_4 (ta 73 rfl)) rfl)
theorem z_Pg_7 : Cond.methodLink R_Pg 7 Lib.Math.max.name ∈ tbG := (tbG_of (tm_4 (ta 74 rfl)) rfl)
theorem q_Pn_268 : Cond.constant R_Pn 268 50000 ∈ tbG := (tbG_of (tm_4 (ta 116 rfl)) rfl)
theorem n_La_10 : NL "PromiseNamesLaw" 10 10 45 := ⟨R_Md, F_Md, t_Md, cl_Md, (tbG_of (tm_4 (ta 161 rfl)) rfl), (tbG_of (tm_4 (ta 162 rfl)) rfl), (tbG_of (tm_1 (ta 9 rfl)) rfl)⟩
theorem w_La_10 : Cond.classLink "PromiseNamesLaw" 10 R_Md ∈ tbG := (tbG_of (tm_4 (ta 161 rfl)) rfl)
theorem o_Md_1 : Cond.methodLink R_Md 1 Lib.objectInit ∈ tbG := (tbG_of (tm_4 (ta 166 rfl)) rfl)
theorem q_Md_118 : Cond.constantLong R_Md 118 255 ∈ tbG := (tbG_of (tm_5 (ta 67 rfl)) rfl)
theorem q_Md_123 : Cond.constantLong R_Md 123 97 ∈ tbG := (tbG_of (tm_5 (ta 94 rfl)) rfl)
theorem q_Md_125 : Cond.constantLong R_Md 125 122 ∈ tbG := (tbG_of (tm_5 (ta 95 rfl)) rfl)
theorem q_Md_127 : Cond.constantLong R_Md 127 48 ∈ tbG := (tbG_of (tm_5 (ta 96 rfl)) rfl)
theorem q_Md_129 : Cond.constantLong R_Md 129 57 ∈ tbG := (tbG_of (tm_5 (ta 97 rfl)) rfl)
theorem q_Md_156 : Cond.constantLong R_Md 156 2003397740 ∈ tbG := (tbG_of (tm_5 (ta 106 rfl)) rfl)
theorem q_Md_162 : Cond.constantLong R_Md 162 7364985 ∈ tbG := (tbG_of (tm_5 (ta 111 rfl)) rfl)
theorem q_Md_164 : Cond.constantLong R_Md 164 495673373300 ∈ tbG := (tbG_of (tm_5 (ta 112 rfl)) rfl)
theorem q_Md_166 : Cond.constantLong R_Md 166 1936225646 ∈ tbG := (tbG_of (tm_5 (ta 113 rfl)) rfl)
theorem q_Md_168 : Cond.constantLong R_Md 168 1702258034 ∈ tbG := (tbG_of (tm_5 (ta 114 rfl)) rfl)
theorem q_Md_170 : Cond.constantLong R_Md 170 7168366 ∈ tbG := (tbG_of (tm_5 (ta 115 rfl)) rfl)
theorem q_Md_172 : Cond.constantLong R_Md 172 126943972910693 ∈ tbG := (tbG_of (tm_5 (ta 116 rfl)) rfl)
theorem q_Md_174 : Cond.constantLong R_Md 174 123563833652072 ∈ tbG := (tbG_of (tm_5 (ta 117 rfl)) rfl)
theorem q_Md_265 : Cond.constantLong R_Md 265 5 ∈ tbG := (tbG_of (tm_5 (ta 197 rfl)) rfl)
theorem q_Md_273 : Cond.constantLong R_Md 273 12 ∈ tbG := (tbG_of (tm_5 (ta 208 rfl)) rfl)
theorem q_Md_282 : Cond.constantLong R_Md 282 60 ∈ tbG := (tbG_of (tm_6 (ta 21 rfl)) rfl)
theorem q_Md_293 : Cond.constantLong R_Md 293 30 ∈ tbG := (tbG_of (tm_6 (ta 46 rfl)) rfl)
theorem q_Md_298 : Cond.constantLong R_Md 298 (-1) ∈ tbG := (tbG_of (tm_6 (ta 58 rfl)) rfl)
theorem q_Md_300 : Cond.constantLong R_Md 300 2 ∈ tbG := (tbG_of (tm_6 (ta 59 rfl)) rfl)
theorem q_Md_302 : Cond.constantLong R_Md 302 9 ∈ tbG := (tbG_of (tm_6 (ta 68 rfl)) rfl)
theorem q_Md_304 : Cond.constantLong R_Md 304 10 ∈ tbG := (tbG_of (tm_6 (ta 69 rfl)) rfl)
theorem q_Md_306 : Cond.constantLong R_Md 306 200 ∈ tbG := (tbG_of (tm_6 (ta 74 rfl)) rfl)
theorem q_Md_321 : Cond.constantLong R_Md 321 (-9999) ∈ tbG := (tbG_of (tm_6 (ta 119 rfl)) rfl)
theorem q_Md_323 : Cond.constantLong R_Md 323 9999 ∈ tbG := (tbG_of (tm_6 (ta 120 rfl)) rfl)
theorem q_Md_328 : Cond.constant R_Md 328 50000 ∈ tbG := (tbG_of (tm_6 (ta 129 rfl)) rfl)
theorem q_Md_329 : Cond.constantLong R_Md 329 3 ∈ tbG := (tbG_of (tm_6 (ta 134 rfl)) rfl)
