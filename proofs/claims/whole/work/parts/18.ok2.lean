section SMOKS
variable {l : Launch} {S b Lx : Nat} {xs : Nat → Int32} {dC : Nat → ClassId} {dI : Nat → Nat → Nat} {cA : Nat → ClassId}
theorem o131_0 : OKp l S b Lx xs dC dI cA 131 0 (s_iload 1) := ok_iload_n (k9 := 1) (by decide +kernel) rfl rfl
theorem o131_1 : OKp l S b Lx xs dC dI cA 131 1 (s_if (fun x => x < 0) 32) := ok_if_lt (off := 51) (by decide +kernel) (by decide +kernel) rfl
theorem o131_2 : OKp l S b Lx xs dC dI cA 131 2 (s_iload 1) := ok_iload_n (k9 := 1) (by decide +kernel) rfl rfl
theorem o131_3 : OKp l S b Lx xs dC dI cA 131 3 (s_aload 0) := ok_aload_n (k9 := 0) (by decide +kernel) rfl rfl
theorem o131_4 : OKp l S b Lx xs dC dI cA 131 4 (s_getR (fun t => t == 11) 6) := ok_getR (by decide +kernel) rfl fd_RX11_36
theorem o131_5 : OKp l S b Lx xs dC dI cA 131 5 (s_alen) := ok_alen (by decide +kernel) rfl
theorem o131_6 : OKp l S b Lx xs dC dI cA 131 6 (s_icmp (fun x y => y ≤ x) 32) := ok_icmp_ge (off := 42) (by decide +kernel) (by decide +kernel) rfl
theorem o131_7 : OKp l S b Lx xs dC dI cA 131 7 (s_iload 2) := ok_iload_n (k9 := 2) (by decide +kernel) rfl rfl
theorem o131_8 : OKp l S b Lx xs dC dI cA 131 8 (s_if (fun x => x < 0) 32) := ok_if_lt (off := 38) (by decide +kernel) (by decide +kernel) rfl
theorem o131_9 : OKp l S b Lx xs dC dI cA 131 9 (s_iload 2) := ok_iload_n (k9 := 2) (by decide +kernel) rfl rfl
theorem o131_10 : OKp l S b Lx xs dC dI cA 131 10 (s_aload 0) := ok_aload_n (k9 := 0) (by decide +kernel) rfl rfl
theorem o131_11 : OKp l S b Lx xs dC dI cA 131 11 (s_getR (fun t => t == 11) 6) := ok_getR (by decide +kernel) rfl fd_RX11_36
theorem o131_12 : OKp l S b Lx xs dC dI cA 131 12 (s_alen) := ok_alen (by decide +kernel) rfl
theorem o131_13 : OKp l S b Lx xs dC dI cA 131 13 (s_icmp (fun x y => y ≤ x) 32) := ok_icmp_ge (off := 29) (by decide +kernel) (by decide +kernel) rfl
theorem o131_14 : OKp l S b Lx xs dC dI cA 131 14 (s_aload 0) := ok_aload_n (k9 := 0) (by decide +kernel) rfl rfl
theorem o131_15 : OKp l S b Lx xs dC dI cA 131 15 (s_getR (fun t => t == 11) 6) := ok_getR (by decide +kernel) rfl fd_RX11_36
theorem o131_16 : OKp l S b Lx xs dC dI cA 131 16 (s_iload 1) := ok_iload_n (k9 := 1) (by decide +kernel) rfl rfl
theorem o131_17 : OKp l S b Lx xs dC dI cA 131 17 (s_iald) := ok_iald (by decide +kernel) rfl
theorem o131_18 : OKp l S b Lx xs dC dI cA 131 18 (s_istore 3) := ok_istore_n (k9 := 3) (by decide +kernel) rfl rfl
theorem o131_19 : OKp l S b Lx xs dC dI cA 131 19 (s_aload 0) := ok_aload_n (k9 := 0) (by decide +kernel) rfl rfl
theorem o131_20 : OKp l S b Lx xs dC dI cA 131 20 (s_getR (fun t => t == 11) 6) := ok_getR (by decide +kernel) rfl fd_RX11_36
theorem o131_21 : OKp l S b Lx xs dC dI cA 131 21 (s_iload 1) := ok_iload_n (k9 := 1) (by decide +kernel) rfl rfl
theorem o131_22 : OKp l S b Lx xs dC dI cA 131 22 (s_aload 0) := ok_aload_n (k9 := 0) (by decide +kernel) rfl rfl
theorem o131_23 : OKp l S b Lx xs dC dI cA 131 23 (s_getR (fun t => t == 11) 6) := ok_getR (by decide +kernel) rfl fd_RX11_36
theorem o131_24 : OKp l S b Lx xs dC dI cA 131 24 (s_iload 2) := ok_iload_n (k9 := 2) (by decide +kernel) rfl rfl
theorem o131_25 : OKp l S b Lx xs dC dI cA 131 25 (s_iald) := ok_iald (by decide +kernel) rfl
theorem o131_26 : OKp l S b Lx xs dC dI cA 131 26 (s_iast) := ok_iast (by decide +kernel) rfl
theorem o131_27 : OKp l S b Lx xs dC dI cA 131 27 (s_aload 0) := ok_aload_n (k9 := 0) (by decide +kernel) rfl rfl
theorem o131_28 : OKp l S b Lx xs dC dI cA 131 28 (s_getR (fun t => t == 11) 6) := ok_getR (by decide +kernel) rfl fd_RX11_36
theorem o131_29 : OKp l S b Lx xs dC dI cA 131 29 (s_iload 2) := ok_iload_n (k9 := 2) (by decide +kernel) rfl rfl
theorem o131_30 : OKp l S b Lx xs dC dI cA 131 30 (s_iload 3) := ok_iload_n (k9 := 3) (by decide +kernel) rfl rfl
theorem o131_31 : OKp l S b Lx xs dC dI cA 131 31 (s_iast) := ok_iast (by decide +kernel) rfl
theorem o131_32 : OKp l S b Lx xs dC dI cA 131 32 (s_vret) := ok_vret (by decide +kernel) rfl
theorem a131 (hl9 : l.stackTraces = false) : sm_all (OKp l S b Lx xs dC dI cA 131) 0 sc_131 := ⟨o131_0, o131_1, o131_2, o131_3, o131_4, o131_5, o131_6, o131_7, o131_8, o131_9, o131_10, o131_11, o131_12, o131_13, o131_14, o131_15, o131_16, o131_17, o131_18, o131_19, o131_20, o131_21, o131_22, o131_23, o131_24, o131_25, o131_26, o131_27, o131_28, o131_29, o131_30, o131_31, o131_32, trivial⟩
theorem o132_0 : OKp l S b Lx xs dC dI cA 132 0 (s_iload 0) := ok_iload_n (k9 := 0) (by decide +kernel) rfl rfl
theorem o132_1 : OKp l S b Lx xs dC dI cA 132 1 (s_const (1103515245)) := ok_ldcw (k := 293) (by decide +kernel) w_692 rfl
theorem o132_2 : OKp l S b Lx xs dC dI cA 132 2 (s_bin g_imul) := ok_imul (by decide +kernel) rfl
theorem o132_3 : OKp l S b Lx xs dC dI cA 132 3 (s_const (12345)) := ok_sipush (n := 12345) (by decide +kernel) (by decide) rfl
theorem o132_4 : OKp l S b Lx xs dC dI cA 132 4 (s_bin g_iadd) := ok_iadd (by decide +kernel) rfl
theorem o132_5 : OKp l S b Lx xs dC dI cA 132 5 (s_ret) := ok_ret (by decide +kernel) rfl
theorem a132 (hl9 : l.stackTraces = false) : sm_all (OKp l S b Lx xs dC dI cA 132) 0 sc_132 := ⟨o132_0, o132_1, o132_2, o132_3, o132_4, o132_5, trivial⟩
theorem o133_0 : OKp l S b Lx xs dC dI cA 133 0 (s_iload 0) := ok_iload_n (k9 := 0) (by decide +kernel) rfl rfl
theorem o133_1 : OKp l S b Lx xs dC dI cA 133 1 (s_const (1)) := ok_iconst (n := 1) (by decide +kernel) (by decide) rfl
theorem o133_2 : OKp l S b Lx xs dC dI cA 133 2 (s_icmp (fun x y => y ≤ x) 5) := ok_icmp_ge (off := 7) (by decide +kernel) (by decide +kernel) rfl
theorem o133_3 : OKp l S b Lx xs dC dI cA 133 3 (s_const (0)) := ok_iconst (n := 0) (by decide +kernel) (by decide) rfl
theorem o133_4 : OKp l S b Lx xs dC dI cA 133 4 (s_goto 12) := ok_goto (off := 14) (by decide +kernel) (by decide +kernel)
theorem o133_5 : OKp l S b Lx xs dC dI cA 133 5 (s_iload 1) := ok_iload_n (k9 := 1) (by decide +kernel) rfl rfl
theorem o133_6 : OKp l S b Lx xs dC dI cA 133 6 (s_const (2147483647)) := ok_ldcw (k := 294) (by decide +kernel) w_696 rfl
theorem o133_7 : OKp l S b Lx xs dC dI cA 133 7 (s_bin g_iand) := ok_iand (by decide +kernel) rfl
theorem o133_8 : OKp l S b Lx xs dC dI cA 133 8 (s_const (65536)) := ok_ldcw (k := 295) (by decide +kernel) w_697 rfl
theorem o133_9 : OKp l S b Lx xs dC dI cA 133 9 (s_dvr g_idiv) := ok_idiv (by decide +kernel) rfl
theorem o133_10 : OKp l S b Lx xs dC dI cA 133 10 (s_iload 0) := ok_iload_n (k9 := 0) (by decide +kernel) rfl rfl
theorem o133_11 : OKp l S b Lx xs dC dI cA 133 11 (s_dvr g_irem) := ok_irem (by decide +kernel) rfl
theorem o133_12 : OKp l S b Lx xs dC dI cA 133 12 (s_ret) := ok_ret (by decide +kernel) rfl
theorem a133 (hl9 : l.stackTraces = false) : sm_all (OKp l S b Lx xs dC dI cA 133) 0 sc_133 := ⟨o133_0, o133_1, o133_2, o133_3, o133_4, o133_5, o133_6, o133_7, o133_8, o133_9, o133_10, o133_11, o133_12, trivial⟩
theorem o134_0 : OKp l S b Lx xs dC dI cA 134 0 (s_const (0)) := ok_iconst (n := 0) (by decide +kernel) (by decide) rfl
theorem o134_1 : OKp l S b Lx xs dC dI cA 134 1 (s_istore 1) := ok_istore_n (k9 := 1) (by decide +kernel) rfl rfl
theorem o134_2 : OKp l S b Lx xs dC dI cA 134 2 (s_iload 1) := ok_iload_n (k9 := 1) (by decide +kernel) rfl rfl
theorem o134_3 : OKp l S b Lx xs dC dI cA 134 3 (s_const (8)) := ok_bipush (n := 8) (by decide +kernel) (by decide) rfl
theorem o134_4 : OKp l S b Lx xs dC dI cA 134 4 (s_icmp (fun x y => y ≤ x) 15) := ok_icmp_ge (off := 19) (by decide +kernel) (by decide +kernel) rfl
theorem o134_5 : OKp l S b Lx xs dC dI cA 134 5 (s_iload 0) := ok_iload_n (k9 := 0) (by decide +kernel) rfl rfl
theorem o134_6 : OKp l S b Lx xs dC dI cA 134 6 (s_iload 1) := ok_iload_n (k9 := 1) (by decide +kernel) rfl rfl
theorem o134_7 : OKp l S b Lx xs dC dI cA 134 7 (s_bin g_ishr) := ok_ishr (by decide +kernel) rfl
theorem o134_8 : OKp l S b Lx xs dC dI cA 134 8 (s_const (1)) := ok_iconst (n := 1) (by decide +kernel) (by decide) rfl
theorem o134_9 : OKp l S b Lx xs dC dI cA 134 9 (s_bin g_iand) := ok_iand (by decide +kernel) rfl
theorem o134_10 : OKp l S b Lx xs dC dI cA 134 10 (s_if (fun x => x = 0) 13) := ok_if_eq (off := 5) (by decide +kernel) (by decide +kernel) rfl
theorem o134_11 : OKp l S b Lx xs dC dI cA 134 11 (s_iload 1) := ok_iload_n (k9 := 1) (by decide +kernel) rfl rfl
theorem o134_12 : OKp l S b Lx xs dC dI cA 134 12 (s_ret) := ok_ret (by decide +kernel) rfl
theorem o134_13 : OKp l S b Lx xs dC dI cA 134 13 (s_iinc 1 (1)) := ok_iinc (n := 1) (by decide +kernel) (by decide) rfl
theorem o134_14 : OKp l S b Lx xs dC dI cA 134 14 (s_goto 2) := ok_goto (off := -19) (by decide +kernel) (by decide +kernel)
theorem o134_15 : OKp l S b Lx xs dC dI cA 134 15 (s_const (-4)) := ok_bipush (n := -4) (by decide +kernel) (by decide) rfl
theorem o134_16 : OKp l S b Lx xs dC dI cA 134 16 (s_ret) := ok_ret (by decide +kernel) rfl
theorem a134 (hl9 : l.stackTraces = false) : sm_all (OKp l S b Lx xs dC dI cA 134) 0 sc_134 := ⟨o134_0, o134_1, o134_2, o134_3, o134_4, o134_5, o134_6, o134_7, o134_8, o134_9, o134_10, o134_11, o134_12, o134_13, o134_14, o134_15, o134_16, trivial⟩
theorem o135_0 : OKp l S b Lx xs dC dI cA 135 0 (s_const (7)) := ok_bipush (n := 7) (by decide +kernel) (by decide) rfl
theorem o135_1 : OKp l S b Lx xs dC dI cA 135 1 (s_istore 1) := ok_istore_n (k9 := 1) (by decide +kernel) rfl rfl
theorem o135_2 : OKp l S b Lx xs dC dI cA 135 2 (s_iload 1) := ok_iload_n (k9 := 1) (by decide +kernel) rfl rfl
theorem o135_3 : OKp l S b Lx xs dC dI cA 135 3 (s_if (fun x => x < 0) 14) := ok_if_lt (off := 19) (by decide +kernel) (by decide +kernel) rfl
theorem o135_4 : OKp l S b Lx xs dC dI cA 135 4 (s_iload 0) := ok_iload_n (k9 := 0) (by decide +kernel) rfl rfl
theorem o135_5 : OKp l S b Lx xs dC dI cA 135 5 (s_iload 1) := ok_iload_n (k9 := 1) (by decide +kernel) rfl rfl
theorem o135_6 : OKp l S b Lx xs dC dI cA 135 6 (s_bin g_ishr) := ok_ishr (by decide +kernel) rfl
theorem o135_7 : OKp l S b Lx xs dC dI cA 135 7 (s_const (1)) := ok_iconst (n := 1) (by decide +kernel) (by decide) rfl
theorem o135_8 : OKp l S b Lx xs dC dI cA 135 8 (s_bin g_iand) := ok_iand (by decide +kernel) rfl
theorem o135_9 : OKp l S b Lx xs dC dI cA 135 9 (s_if (fun x => x = 0) 12) := ok_if_eq (off := 5) (by decide +kernel) (by decide +kernel) rfl
theorem o135_10 : OKp l S b Lx xs dC dI cA 135 10 (s_iload 1) := ok_iload_n (k9 := 1) (by decide +kernel) rfl rfl
theorem o135_11 : OKp l S b Lx xs dC dI cA 135 11 (s_ret) := ok_ret (by decide +kernel) rfl
theorem o135_12 : OKp l S b Lx xs dC dI cA 135 12 (s_iinc 1 (-1)) := ok_iinc (n := -1) (by decide +kernel) (by decide) rfl
theorem o135_13 : OKp l S b Lx xs dC dI cA 135 13 (s_goto 2) := ok_goto (off := -17) (by decide +kernel) (by decide +kernel)
theorem o135_14 : OKp l S b Lx xs dC dI cA 135 14 (s_const (-4)) := ok_bipush (n := -4) (by decide +kernel) (by decide) rfl
theorem o135_15 : OKp l S b Lx xs dC dI cA 135 15 (s_ret) := ok_ret (by decide +kernel) rfl
theorem a135 (hl9 : l.stackTraces = false) : sm_all (OKp l S b Lx xs dC dI cA 135) 0 sc_135 := ⟨o135_0, o135_1, o135_2, o135_3, o135_4, o135_5, o135_6, o135_7, o135_8, o135_9, o135_10, o135_11, o135_12, o135_13, o135_14, o135_15, trivial⟩
theorem o136_0 : OKp l S b Lx xs dC dI cA 136 0 (s_iload 1) := ok_iload_n (k9 := 1) (by decide +kernel) rfl rfl
theorem o136_1 : OKp l S b Lx xs dC dI cA 136 1 (s_if (fun x => x < 0) 5) := ok_if_lt (off := 9) (by decide +kernel) (by decide +kernel) rfl
theorem o136_2 : OKp l S b Lx xs dC dI cA 136 2 (s_iload 1) := ok_iload_n (k9 := 1) (by decide +kernel) rfl rfl
theorem o136_3 : OKp l S b Lx xs dC dI cA 136 3 (s_const (9)) := ok_bipush (n := 9) (by decide +kernel) (by decide) rfl
theorem o136_4 : OKp l S b Lx xs dC dI cA 136 4 (s_icmp (fun x y => x ≤ y) 7) := ok_icmp_le (off := 5) (by decide +kernel) (by decide +kernel) rfl
theorem o136_5 : OKp l S b Lx xs dC dI cA 136 5 (s_null) := ok_null (by decide +kernel) rfl
theorem o136_6 : OKp l S b Lx xs dC dI cA 136 6 (s_aret) := ok_aret (by decide +kernel) rfl
theorem o136_7 : OKp l S b Lx xs dC dI cA 136 7 (s_iload 0) := ok_iload_n (k9 := 0) (by decide +kernel) rfl rfl
theorem o136_8 : OKp l S b Lx xs dC dI cA 136 8 (s_sw [(0, 9), (1, 14), (2, 19), (3, 24), (4, 29), (5, 34), (6, 39), (7, 44)] 49) := ok_table (dflt := 119) (lo := 0) (hi := 7) (offs := #[47, 56, 65, 74, 83, 92, 101, 110]) (len := 47) (by decide +kernel) (by decide +kernel) (by decide +kernel) (by decide +kernel) (by decide +kernel)
theorem o136_9 : OKp l S b Lx xs dC dI cA 136 9 (s_new 7 1) := ok_new (C := RX7) (T := TX7) (ty := tyX7) rfl inX7 tyX7_ok w_265 w_266 w_63 df_7 (by decide +kernel) rfl
theorem o136_10 : OKp l S b Lx xs dC dI cA 136 10 (s_dup) := ok_dup (by decide +kernel) rfl
theorem o136_11 : OKp l S b Lx xs dC dI cA 136 11 (s_iload 1) := ok_iload_n (k9 := 1) (by decide +kernel) rfl rfl
theorem o136_12 : OKp l S b Lx xs dC dI cA 136 12 (s_invI 44 1 2) := ok_invI rfl rfl (by decide) (hXX 44 (by decide)) w_267 w_268 w_63 c_44 rfl rfl (by decide +kernel) (by decide +kernel) rfl
theorem o136_13 : OKp l S b Lx xs dC dI cA 136 13 (s_aret) := ok_aret (by decide +kernel) rfl
theorem o136_14 : OKp l S b Lx xs dC dI cA 136 14 (s_new 4 1) := ok_new (C := RX4) (T := TX4) (ty := tyX4) rfl inX4 tyX4_ok w_286 w_287 w_64 df_4 (by decide +kernel) rfl
theorem o136_15 : OKp l S b Lx xs dC dI cA 136 15 (s_dup) := ok_dup (by decide +kernel) rfl
theorem o136_16 : OKp l S b Lx xs dC dI cA 136 16 (s_iload 1) := ok_iload_n (k9 := 1) (by decide +kernel) rfl rfl
theorem o136_17 : OKp l S b Lx xs dC dI cA 136 17 (s_invI 29 1 2) := ok_invI rfl rfl (by decide) (hXX 29 (by decide)) w_288 w_289 w_64 c_29 rfl rfl (by decide +kernel) (by decide +kernel) rfl
theorem o136_18 : OKp l S b Lx xs dC dI cA 136 18 (s_aret) := ok_aret (by decide +kernel) rfl
theorem o136_19 : OKp l S b Lx xs dC dI cA 136 19 (s_new 3 1) := ok_new (C := RX3) (T := TX3) (ty := tyX3) rfl inX3 tyX3_ok w_294 w_295 w_65 df_3 (by decide +kernel) rfl
theorem o136_20 : OKp l S b Lx xs dC dI cA 136 20 (s_dup) := ok_dup (by decide +kernel) rfl
theorem o136_21 : OKp l S b Lx xs dC dI cA 136 21 (s_iload 1) := ok_iload_n (k9 := 1) (by decide +kernel) rfl rfl
theorem o136_22 : OKp l S b Lx xs dC dI cA 136 22 (s_invI 23 1 2) := ok_invI rfl rfl (by decide) (hXX 23 (by decide)) w_296 w_297 w_65 c_23 rfl rfl (by decide +kernel) (by decide +kernel) rfl
theorem o136_23 : OKp l S b Lx xs dC dI cA 136 23 (s_aret) := ok_aret (by decide +kernel) rfl
theorem o136_24 : OKp l S b Lx xs dC dI cA 136 24 (s_new 6 1) := ok_new (C := RX6) (T := TX6) (ty := tyX6) rfl inX6 tyX6_ok w_302 w_303 w_66 df_6 (by decide +kernel) rfl
theorem o136_25 : OKp l S b Lx xs dC dI cA 136 25 (s_dup) := ok_dup (by decide +kernel) rfl
theorem o136_26 : OKp l S b Lx xs dC dI cA 136 26 (s_iload 1) := ok_iload_n (k9 := 1) (by decide +kernel) rfl rfl
theorem o136_27 : OKp l S b Lx xs dC dI cA 136 27 (s_invI 38 1 2) := ok_invI rfl rfl (by decide) (hXX 38 (by decide)) w_304 w_305 w_66 c_38 rfl rfl (by decide +kernel) (by decide +kernel) rfl
theorem o136_28 : OKp l S b Lx xs dC dI cA 136 28 (s_aret) := ok_aret (by decide +kernel) rfl
theorem o136_29 : OKp l S b Lx xs dC dI cA 136 29 (s_new 2 1) := ok_new (C := RX2) (T := TX2) (ty := tyX2) rfl inX2 tyX2_ok w_310 w_311 w_67 df_2 (by decide +kernel) rfl
theorem o136_30 : OKp l S b Lx xs dC dI cA 136 30 (s_dup) := ok_dup (by decide +kernel) rfl
theorem o136_31 : OKp l S b Lx xs dC dI cA 136 31 (s_iload 1) := ok_iload_n (k9 := 1) (by decide +kernel) rfl rfl
theorem o136_32 : OKp l S b Lx xs dC dI cA 136 32 (s_invI 18 1 2) := ok_invI rfl rfl (by decide) (hXX 18 (by decide)) w_312 w_313 w_67 c_18 rfl rfl (by decide +kernel) (by decide +kernel) rfl
theorem o136_33 : OKp l S b Lx xs dC dI cA 136 33 (s_aret) := ok_aret (by decide +kernel) rfl
theorem o136_34 : OKp l S b Lx xs dC dI cA 136 34 (s_new 0 1) := ok_new (C := RX0) (T := TX0) (ty := tyX0) rfl inX0 tyX0_ok w_318 w_319 w_68 df_0 (by decide +kernel) rfl
theorem o136_35 : OKp l S b Lx xs dC dI cA 136 35 (s_dup) := ok_dup (by decide +kernel) rfl
theorem o136_36 : OKp l S b Lx xs dC dI cA 136 36 (s_iload 1) := ok_iload_n (k9 := 1) (by decide +kernel) rfl rfl
theorem o136_37 : OKp l S b Lx xs dC dI cA 136 37 (s_invI 0 1 2) := ok_invI rfl rfl (by decide) (hXX 0 (by decide)) w_320 w_321 w_68 c_0 rfl rfl (by decide +kernel) (by decide +kernel) rfl
theorem o136_38 : OKp l S b Lx xs dC dI cA 136 38 (s_aret) := ok_aret (by decide +kernel) rfl
theorem o136_39 : OKp l S b Lx xs dC dI cA 136 39 (s_new 9 1) := ok_new (C := RX9) (T := TX9) (ty := tyX9) rfl inX9 tyX9_ok w_326 w_327 w_69 df_9 (by decide +kernel) rfl
theorem o136_40 : OKp l S b Lx xs dC dI cA 136 40 (s_dup) := ok_dup (by decide +kernel) rfl
theorem o136_41 : OKp l S b Lx xs dC dI cA 136 41 (s_iload 1) := ok_iload_n (k9 := 1) (by decide +kernel) rfl rfl
theorem o136_42 : OKp l S b Lx xs dC dI cA 136 42 (s_invI 59 1 2) := ok_invI rfl rfl (by decide) (hXX 59 (by decide)) w_328 w_329 w_69 c_59 rfl rfl (by decide +kernel) (by decide +kernel) rfl
theorem o136_43 : OKp l S b Lx xs dC dI cA 136 43 (s_aret) := ok_aret (by decide +kernel) rfl
theorem o136_44 : OKp l S b Lx xs dC dI cA 136 44 (s_new 5 1) := ok_new (C := RX5) (T := TX5) (ty := tyX5) rfl inX5 tyX5_ok w_334 w_335 w_70 df_5 (by decide +kernel) rfl
theorem o136_45 : OKp l S b Lx xs dC dI cA 136 45 (s_dup) := ok_dup (by decide +kernel) rfl
theorem o136_46 : OKp l S b Lx xs dC dI cA 136 46 (s_iload 1) := ok_iload_n (k9 := 1) (by decide +kernel) rfl rfl
theorem o136_47 : OKp l S b Lx xs dC dI cA 136 47 (s_invI 33 1 2) := ok_invI rfl rfl (by decide) (hXX 33 (by decide)) w_336 w_337 w_70 c_33 rfl rfl (by decide +kernel) (by decide +kernel) rfl
theorem o136_48 : OKp l S b Lx xs dC dI cA 136 48 (s_aret) := ok_aret (by decide +kernel) rfl
theorem o136_49 : OKp l S b Lx xs dC dI cA 136 49 (s_null) := ok_null (by decide +kernel) rfl
theorem o136_50 : OKp l S b Lx xs dC dI cA 136 50 (s_aret) := ok_aret (by decide +kernel) rfl
theorem a136 (hl9 : l.stackTraces = false) : sm_all (OKp l S b Lx xs dC dI cA 136) 0 sc_136 := ⟨o136_0, o136_1, o136_2, o136_3, o136_4, o136_5, o136_6, o136_7, o136_8, o136_9, o136_10, o136_11, o136_12, o136_13, o136_14, o136_15, o136_16, o136_17, o136_18, o136_19, o136_20, o136_21, o136_22, o136_23, o136_24, o136_25, o136_26, o136_27, o136_28, o136_29, o136_30, o136_31, o136_32, o136_33, o136_34, o136_35, o136_36, o136_37, o136_38, o136_39, o136_40, o136_41, o136_42, o136_43, o136_44, o136_45, o136_46, o136_47, o136_48, o136_49, o136_50, trivial⟩
theorem o137_0 : OKp l S b Lx xs dC dI cA 137 0 (s_aload 0) := ok_aload_n (k9 := 0) (by decide +kernel) rfl rfl
theorem o137_1 : OKp l S b Lx xs dC dI cA 137 1 (s_objInit) := ok_objInit w_931 w_84 wobj (by decide +kernel) rfl
theorem o137_2 : OKp l S b Lx xs dC dI cA 137 2 (s_aload 0) := ok_aload_n (k9 := 0) (by decide +kernel) rfl rfl
theorem o137_3 : OKp l S b Lx xs dC dI cA 137 3 (s_const (87)) := ok_bipush (n := 87) (by decide +kernel) (by decide) rfl
theorem o137_4 : OKp l S b Lx xs dC dI cA 137 4 (s_newarr 50) := ok_newarr_i w_118 (by decide +kernel) rfl
theorem o137_5 : OKp l S b Lx xs dC dI cA 137 5 (s_putR 12 0) := ok_putRF (ty := (.array .int)) (fun v => by cases v <;> exact ⟨rfl, rfl⟩) (by decide +kernel) rfl rfl fp_RX12_9 rfl
theorem o137_6 : OKp l S b Lx xs dC dI cA 137 6 (s_aload 0) := ok_aload_n (k9 := 0) (by decide +kernel) rfl rfl
theorem o137_7 : OKp l S b Lx xs dC dI cA 137 7 (s_const (87)) := ok_bipush (n := 87) (by decide +kernel) (by decide) rfl
theorem o137_8 : OKp l S b Lx xs dC dI cA 137 8 (s_newarr 50) := ok_newarr_i w_118 (by decide +kernel) rfl
theorem o137_9 : OKp l S b Lx xs dC dI cA 137 9 (s_putR 12 1) := ok_putRF (ty := (.array .int)) (fun v => by cases v <;> exact ⟨rfl, rfl⟩) (by decide +kernel) rfl rfl fp_RX12_13 rfl
theorem o137_10 : OKp l S b Lx xs dC dI cA 137 10 (s_aload 0) := ok_aload_n (k9 := 0) (by decide +kernel) rfl rfl
theorem o137_11 : OKp l S b Lx xs dC dI cA 137 11 (s_const (87)) := ok_bipush (n := 87) (by decide +kernel) (by decide) rfl
theorem o137_12 : OKp l S b Lx xs dC dI cA 137 12 (s_newarr 50) := ok_newarr_i w_118 (by decide +kernel) rfl
theorem o137_13 : OKp l S b Lx xs dC dI cA 137 13 (s_putR 12 2) := ok_putRF (ty := (.array .int)) (fun v => by cases v <;> exact ⟨rfl, rfl⟩) (by decide +kernel) rfl rfl fp_RX12_16 rfl
theorem o137_14 : OKp l S b Lx xs dC dI cA 137 14 (s_aload 0) := ok_aload_n (k9 := 0) (by decide +kernel) rfl rfl
theorem o137_15 : OKp l S b Lx xs dC dI cA 137 15 (s_const (87)) := ok_bipush (n := 87) (by decide +kernel) (by decide) rfl
theorem o137_16 : OKp l S b Lx xs dC dI cA 137 16 (s_newarr 50) := ok_newarr_i w_118 (by decide +kernel) rfl
theorem o137_17 : OKp l S b Lx xs dC dI cA 137 17 (s_putR 12 3) := ok_putRF (ty := (.array .int)) (fun v => by cases v <;> exact ⟨rfl, rfl⟩) (by decide +kernel) rfl rfl fp_RX12_19 rfl
theorem o137_18 : OKp l S b Lx xs dC dI cA 137 18 (s_aload 0) := ok_aload_n (k9 := 0) (by decide +kernel) rfl rfl
theorem o137_19 : OKp l S b Lx xs dC dI cA 137 19 (s_const (8)) := ok_bipush (n := 8) (by decide +kernel) (by decide) rfl
theorem o137_20 : OKp l S b Lx xs dC dI cA 137 20 (s_newarr 50) := ok_newarr_i w_118 (by decide +kernel) rfl
theorem o137_21 : OKp l S b Lx xs dC dI cA 137 21 (s_putR 12 4) := ok_putRF (ty := (.array .int)) (fun v => by cases v <;> exact ⟨rfl, rfl⟩) (by decide +kernel) rfl rfl fp_RX12_22 rfl
theorem o137_22 : OKp l S b Lx xs dC dI cA 137 22 (s_aload 0) := ok_aload_n (k9 := 0) (by decide +kernel) rfl rfl
theorem o137_23 : OKp l S b Lx xs dC dI cA 137 23 (s_const (8)) := ok_bipush (n := 8) (by decide +kernel) (by decide) rfl
theorem o137_24 : OKp l S b Lx xs dC dI cA 137 24 (s_newarr 50) := ok_newarr_i w_118 (by decide +kernel) rfl
theorem o137_25 : OKp l S b Lx xs dC dI cA 137 25 (s_putR 12 5) := ok_putRF (ty := (.array .int)) (fun v => by cases v <;> exact ⟨rfl, rfl⟩) (by decide +kernel) rfl rfl fp_RX12_25 rfl
theorem o137_26 : OKp l S b Lx xs dC dI cA 137 26 (s_aload 0) := ok_aload_n (k9 := 0) (by decide +kernel) rfl rfl
theorem o137_27 : OKp l S b Lx xs dC dI cA 137 27 (s_const (8)) := ok_bipush (n := 8) (by decide +kernel) (by decide) rfl
theorem o137_28 : OKp l S b Lx xs dC dI cA 137 28 (s_newarr 50) := ok_newarr_i w_118 (by decide +kernel) rfl
theorem o137_29 : OKp l S b Lx xs dC dI cA 137 29 (s_putR 12 6) := ok_putRF (ty := (.array .int)) (fun v => by cases v <;> exact ⟨rfl, rfl⟩) (by decide +kernel) rfl rfl fp_RX12_28 rfl
theorem o137_30 : OKp l S b Lx xs dC dI cA 137 30 (s_aload 0) := ok_aload_n (k9 := 0) (by decide +kernel) rfl rfl
theorem o137_31 : OKp l S b Lx xs dC dI cA 137 31 (s_const (800)) := ok_sipush (n := 800) (by decide +kernel) (by decide) rfl
theorem o137_32 : OKp l S b Lx xs dC dI cA 137 32 (s_newarr 50) := ok_newarr_i w_118 (by decide +kernel) rfl
theorem o137_33 : OKp l S b Lx xs dC dI cA 137 33 (s_putR 12 7) := ok_putRF (ty := (.array .int)) (fun v => by cases v <;> exact ⟨rfl, rfl⟩) (by decide +kernel) rfl rfl fp_RX12_31 rfl
theorem o137_34 : OKp l S b Lx xs dC dI cA 137 34 (s_aload 0) := ok_aload_n (k9 := 0) (by decide +kernel) rfl rfl
theorem o137_35 : OKp l S b Lx xs dC dI cA 137 35 (s_const (8)) := ok_bipush (n := 8) (by decide +kernel) (by decide) rfl
theorem o137_36 : OKp l S b Lx xs dC dI cA 137 36 (s_newarr 50) := ok_newarr_i w_118 (by decide +kernel) rfl
theorem o137_37 : OKp l S b Lx xs dC dI cA 137 37 (s_putR 12 8) := ok_putRF (ty := (.array .int)) (fun v => by cases v <;> exact ⟨rfl, rfl⟩) (by decide +kernel) rfl rfl fp_RX12_34 rfl
theorem o137_38 : OKp l S b Lx xs dC dI cA 137 38 (s_aload 0) := ok_aload_n (k9 := 0) (by decide +kernel) rfl rfl
theorem o137_39 : OKp l S b Lx xs dC dI cA 137 39 (s_const (8)) := ok_bipush (n := 8) (by decide +kernel) (by decide) rfl
theorem o137_40 : OKp l S b Lx xs dC dI cA 137 40 (s_newarr 50) := ok_newarr_i w_118 (by decide +kernel) rfl
theorem o137_41 : OKp l S b Lx xs dC dI cA 137 41 (s_putR 12 9) := ok_putRF (ty := (.array .int)) (fun v => by cases v <;> exact ⟨rfl, rfl⟩) (by decide +kernel) rfl rfl fp_RX12_37 rfl
theorem o137_42 : OKp l S b Lx xs dC dI cA 137 42 (s_aload 0) := ok_aload_n (k9 := 0) (by decide +kernel) rfl rfl
theorem o137_43 : OKp l S b Lx xs dC dI cA 137 43 (s_const (3)) := ok_iconst (n := 3) (by decide +kernel) (by decide) rfl
theorem o137_44 : OKp l S b Lx xs dC dI cA 137 44 (s_newarr 50) := ok_newarr_i w_118 (by decide +kernel) rfl
theorem o137_45 : OKp l S b Lx xs dC dI cA 137 45 (s_putR 12 15) := ok_putRF (ty := (.array .int)) (fun v => by cases v <;> exact ⟨rfl, rfl⟩) (by decide +kernel) rfl rfl fp_RX12_40 rfl
theorem o137_46 : OKp l S b Lx xs dC dI cA 137 46 (s_aload 0) := ok_aload_n (k9 := 0) (by decide +kernel) rfl rfl
theorem o137_47 : OKp l S b Lx xs dC dI cA 137 47 (s_const (6)) := ok_bipush (n := 6) (by decide +kernel) (by decide) rfl
theorem o137_48 : OKp l S b Lx xs dC dI cA 137 48 (s_newarr 50) := ok_newarr_i w_118 (by decide +kernel) rfl
theorem o137_49 : OKp l S b Lx xs dC dI cA 137 49 (s_putR 12 16) := ok_putRF (ty := (.array .int)) (fun v => by cases v <;> exact ⟨rfl, rfl⟩) (by decide +kernel) rfl rfl fp_RX12_43 rfl
theorem o137_50 : OKp l S b Lx xs dC dI cA 137 50 (s_aload 0) := ok_aload_n (k9 := 0) (by decide +kernel) rfl rfl
theorem o137_51 : OKp l S b Lx xs dC dI cA 137 51 (s_const (10)) := ok_bipush (n := 10) (by decide +kernel) (by decide) rfl
theorem o137_52 : OKp l S b Lx xs dC dI cA 137 52 (s_newarr 50) := ok_newarr_i w_118 (by decide +kernel) rfl
theorem o137_53 : OKp l S b Lx xs dC dI cA 137 53 (s_putR 12 19) := ok_putRF (ty := (.array .int)) (fun v => by cases v <;> exact ⟨rfl, rfl⟩) (by decide +kernel) rfl rfl fp_RX12_46 rfl
theorem o137_54 : OKp l S b Lx xs dC dI cA 137 54 (s_vret) := ok_vret (by decide +kernel) rfl
theorem a137 (hl9 : l.stackTraces = false) : sm_all (OKp l S b Lx xs dC dI cA 137) 0 sc_137 := ⟨o137_0, o137_1, o137_2, o137_3, o137_4, o137_5, o137_6, o137_7, o137_8, o137_9, o137_10, o137_11, o137_12, o137_13, o137_14, o137_15, o137_16, o137_17, o137_18, o137_19, o137_20, o137_21, o137_22, o137_23, o137_24, o137_25, o137_26, o137_27, o137_28, o137_29, o137_30, o137_31, o137_32, o137_33, o137_34, o137_35, o137_36, o137_37, o137_38, o137_39, o137_40, o137_41, o137_42, o137_43, o137_44, o137_45, o137_46, o137_47, o137_48, o137_49, o137_50, o137_51, o137_52, o137_53, o137_54, trivial⟩
theorem o138_0 : OKp l S b Lx xs dC dI cA 138 0 (s_aload 0) := ok_aload_n (k9 := 0) (by decide +kernel) rfl rfl
theorem o138_1 : OKp l S b Lx xs dC dI cA 138 1 (s_getI (fun t => t == 12) 11) := ok_getI (by decide +kernel) rfl fd_RX12_49
theorem o138_2 : OKp l S b Lx xs dC dI cA 138 2 (s_ret) := ok_ret (by decide +kernel) rfl
theorem a138 (hl9 : l.stackTraces = false) : sm_all (OKp l S b Lx xs dC dI cA 138) 0 sc_138 := ⟨o138_0, o138_1, o138_2, trivial⟩
theorem o139_0 : OKp l S b Lx xs dC dI cA 139 0 (s_lload 0) := ok_lload_n (k9 := 0) (by decide +kernel) rfl rfl
theorem o139_1 : OKp l S b Lx xs dC dI cA 139 1 (s_lload 2) := ok_lload_n (k9 := 2) (by decide +kernel) rfl rfl
theorem o139_2 : OKp l S b Lx xs dC dI cA 139 2 (s_lcmp) := ok_lcmp (by decide +kernel) rfl
theorem o139_3 : OKp l S b Lx xs dC dI cA 139 3 (s_if (fun x => x < 0) 10) := ok_if_lt (off := 14) (by decide +kernel) (by decide +kernel) rfl
theorem o139_4 : OKp l S b Lx xs dC dI cA 139 4 (s_lload 0) := ok_lload_n (k9 := 0) (by decide +kernel) rfl rfl
theorem o139_5 : OKp l S b Lx xs dC dI cA 139 5 (s_lload 4) := ok_lload (by decide +kernel) rfl
theorem o139_6 : OKp l S b Lx xs dC dI cA 139 6 (s_lcmp) := ok_lcmp (by decide +kernel) rfl
theorem o139_7 : OKp l S b Lx xs dC dI cA 139 7 (s_if (fun x => 0 < x) 10) := ok_if_gt (off := 7) (by decide +kernel) (by decide +kernel) rfl
theorem o139_8 : OKp l S b Lx xs dC dI cA 139 8 (s_const (1)) := ok_iconst (n := 1) (by decide +kernel) (by decide) rfl
theorem o139_9 : OKp l S b Lx xs dC dI cA 139 9 (s_goto 11) := ok_goto (off := 4) (by decide +kernel) (by decide +kernel)
theorem o139_10 : OKp l S b Lx xs dC dI cA 139 10 (s_const (0)) := ok_iconst (n := 0) (by decide +kernel) (by decide) rfl
theorem o139_11 : OKp l S b Lx xs dC dI cA 139 11 (s_zret) := ok_zret (by decide +kernel) rfl
theorem a139 (hl9 : l.stackTraces = false) : sm_all (OKp l S b Lx xs dC dI cA 139) 0 sc_139 := ⟨o139_0, o139_1, o139_2, o139_3, o139_4, o139_5, o139_6, o139_7, o139_8, o139_9, o139_10, o139_11, trivial⟩
theorem o140_0 : OKp l S b Lx xs dC dI cA 140 0 (s_iload 0) := ok_iload_n (k9 := 0) (by decide +kernel) rfl rfl
theorem o140_1 : OKp l S b Lx xs dC dI cA 140 1 (s_i2l) := ok_i2l (by decide +kernel) rfl
theorem o140_2 : OKp l S b Lx xs dC dI cA 140 2 (s_lconst 0) := ok_lconst (n := 0) (by decide +kernel) (by decide) rfl
theorem o140_3 : OKp l S b Lx xs dC dI cA 140 3 (s_lconst (7)) := ok_ldc2 (k := 53) (by decide +kernel) w_1011 rfl
theorem o140_4 : OKp l S b Lx xs dC dI cA 140 4 (s_invS 139 3 6) := ok_invS rfl rfl (by decide) (hXX 139 (by decide)) w_1012 w_1013 w_61 c_139 (by decide +kernel) (by decide +kernel) rfl
theorem o140_5 : OKp l S b Lx xs dC dI cA 140 5 (s_zret) := ok_zret (by decide +kernel) rfl
theorem a140 (hl9 : l.stackTraces = false) : sm_all (OKp l S b Lx xs dC dI cA 140) 0 sc_140 := ⟨o140_0, o140_1, o140_2, o140_3, o140_4, o140_5, trivial⟩
theorem o141_0 : OKp l S b Lx xs dC dI cA 141 0 (s_iload 1) := ok_iload_n (k9 := 1) (by decide +kernel) rfl rfl
theorem o141_1 : OKp l S b Lx xs dC dI cA 141 1 (s_i2l) := ok_i2l (by decide +kernel) rfl
theorem o141_2 : OKp l S b Lx xs dC dI cA 141 2 (s_lconst 0) := ok_lconst (n := 0) (by decide +kernel) (by decide) rfl
theorem o141_3 : OKp l S b Lx xs dC dI cA 141 3 (s_aload 0) := ok_aload_n (k9 := 0) (by decide +kernel) rfl rfl
theorem o141_4 : OKp l S b Lx xs dC dI cA 141 4 (s_getR (fun t => t == 12) 0) := ok_getR (by decide +kernel) rfl fd_RX12_9
theorem o141_5 : OKp l S b Lx xs dC dI cA 141 5 (s_const (0)) := ok_iconst (n := 0) (by decide +kernel) (by decide) rfl
theorem o141_6 : OKp l S b Lx xs dC dI cA 141 6 (s_iald) := ok_iald (by decide +kernel) rfl
theorem o141_7 : OKp l S b Lx xs dC dI cA 141 7 (s_const (1)) := ok_iconst (n := 1) (by decide +kernel) (by decide) rfl
theorem o141_8 : OKp l S b Lx xs dC dI cA 141 8 (s_bin g_isub) := ok_isub (by decide +kernel) rfl
theorem o141_9 : OKp l S b Lx xs dC dI cA 141 9 (s_i2l) := ok_i2l (by decide +kernel) rfl
theorem o141_10 : OKp l S b Lx xs dC dI cA 141 10 (s_invS 139 3 6) := ok_invS rfl rfl (by decide) (hXX 139 (by decide)) w_1012 w_1013 w_61 c_139 (by decide +kernel) (by decide +kernel) rfl
theorem o141_11 : OKp l S b Lx xs dC dI cA 141 11 (s_zret) := ok_zret (by decide +kernel) rfl
theorem a141 (hl9 : l.stackTraces = false) : sm_all (OKp l S b Lx xs dC dI cA 141) 0 sc_141 := ⟨o141_0, o141_1, o141_2, o141_3, o141_4, o141_5, o141_6, o141_7, o141_8, o141_9, o141_10, o141_11, trivial⟩
theorem o142_0 : OKp l S b Lx xs dC dI cA 142 0 (s_iload 1) := ok_iload_n (k9 := 1) (by decide +kernel) rfl rfl
theorem o142_1 : OKp l S b Lx xs dC dI cA 142 1 (s_i2l) := ok_i2l (by decide +kernel) rfl
theorem o142_2 : OKp l S b Lx xs dC dI cA 142 2 (s_lconst 0) := ok_lconst (n := 0) (by decide +kernel) (by decide) rfl
theorem o142_3 : OKp l S b Lx xs dC dI cA 142 3 (s_aload 0) := ok_aload_n (k9 := 0) (by decide +kernel) rfl rfl
theorem o142_4 : OKp l S b Lx xs dC dI cA 142 4 (s_getR (fun t => t == 12) 0) := ok_getR (by decide +kernel) rfl fd_RX12_9
theorem o142_5 : OKp l S b Lx xs dC dI cA 142 5 (s_const (1)) := ok_iconst (n := 1) (by decide +kernel) (by decide) rfl
theorem o142_6 : OKp l S b Lx xs dC dI cA 142 6 (s_iald) := ok_iald (by decide +kernel) rfl
theorem o142_7 : OKp l S b Lx xs dC dI cA 142 7 (s_const (1)) := ok_iconst (n := 1) (by decide +kernel) (by decide) rfl
theorem o142_8 : OKp l S b Lx xs dC dI cA 142 8 (s_bin g_isub) := ok_isub (by decide +kernel) rfl
theorem o142_9 : OKp l S b Lx xs dC dI cA 142 9 (s_i2l) := ok_i2l (by decide +kernel) rfl
theorem o142_10 : OKp l S b Lx xs dC dI cA 142 10 (s_invS 139 3 6) := ok_invS rfl rfl (by decide) (hXX 139 (by decide)) w_1012 w_1013 w_61 c_139 (by decide +kernel) (by decide +kernel) rfl
theorem o142_11 : OKp l S b Lx xs dC dI cA 142 11 (s_zret) := ok_zret (by decide +kernel) rfl
theorem a142 (hl9 : l.stackTraces = false) : sm_all (OKp l S b Lx xs dC dI cA 142) 0 sc_142 := ⟨o142_0, o142_1, o142_2, o142_3, o142_4, o142_5, o142_6, o142_7, o142_8, o142_9, o142_10, o142_11, trivial⟩
theorem o143_0 : OKp l S b Lx xs dC dI cA 143 0 (s_aload 0) := ok_aload_n (k9 := 0) (by decide +kernel) rfl rfl
theorem o143_1 : OKp l S b Lx xs dC dI cA 143 1 (s_getR (fun t => t == 12) 0) := ok_getR (by decide +kernel) rfl fd_RX12_9
theorem o143_2 : OKp l S b Lx xs dC dI cA 143 2 (s_const (3)) := ok_iconst (n := 3) (by decide +kernel) (by decide) rfl
theorem o143_3 : OKp l S b Lx xs dC dI cA 143 3 (s_const (18)) := ok_bipush (n := 18) (by decide +kernel) (by decide) rfl
theorem o143_4 : OKp l S b Lx xs dC dI cA 143 4 (s_iload 1) := ok_iload_n (k9 := 1) (by decide +kernel) rfl rfl
theorem o143_5 : OKp l S b Lx xs dC dI cA 143 5 (s_bin g_imul) := ok_imul (by decide +kernel) rfl
theorem o143_6 : OKp l S b Lx xs dC dI cA 143 6 (s_bin g_iadd) := ok_iadd (by decide +kernel) rfl
theorem o143_7 : OKp l S b Lx xs dC dI cA 143 7 (s_iald) := ok_iald (by decide +kernel) rfl
theorem o143_8 : OKp l S b Lx xs dC dI cA 143 8 (s_ret) := ok_ret (by decide +kernel) rfl
theorem a143 (hl9 : l.stackTraces = false) : sm_all (OKp l S b Lx xs dC dI cA 143) 0 sc_143 := ⟨o143_0, o143_1, o143_2, o143_3, o143_4, o143_5, o143_6, o143_7, o143_8, trivial⟩
theorem o144_0 : OKp l S b Lx xs dC dI cA 144 0 (s_aload 0) := ok_aload_n (k9 := 0) (by decide +kernel) rfl rfl
theorem o144_1 : OKp l S b Lx xs dC dI cA 144 1 (s_getR (fun t => t == 12) 0) := ok_getR (by decide +kernel) rfl fd_RX12_9
theorem o144_2 : OKp l S b Lx xs dC dI cA 144 2 (s_const (3)) := ok_iconst (n := 3) (by decide +kernel) (by decide) rfl
theorem o144_3 : OKp l S b Lx xs dC dI cA 144 3 (s_const (18)) := ok_bipush (n := 18) (by decide +kernel) (by decide) rfl
theorem o144_4 : OKp l S b Lx xs dC dI cA 144 4 (s_iload 1) := ok_iload_n (k9 := 1) (by decide +kernel) rfl rfl
theorem o144_5 : OKp l S b Lx xs dC dI cA 144 5 (s_bin g_imul) := ok_imul (by decide +kernel) rfl
theorem o144_6 : OKp l S b Lx xs dC dI cA 144 6 (s_bin g_iadd) := ok_iadd (by decide +kernel) rfl
theorem o144_7 : OKp l S b Lx xs dC dI cA 144 7 (s_const (1)) := ok_iconst (n := 1) (by decide +kernel) (by decide) rfl
theorem o144_8 : OKp l S b Lx xs dC dI cA 144 8 (s_bin g_iadd) := ok_iadd (by decide +kernel) rfl
theorem o144_9 : OKp l S b Lx xs dC dI cA 144 9 (s_iald) := ok_iald (by decide +kernel) rfl
theorem o144_10 : OKp l S b Lx xs dC dI cA 144 10 (s_ret) := ok_ret (by decide +kernel) rfl
theorem a144 (hl9 : l.stackTraces = false) : sm_all (OKp l S b Lx xs dC dI cA 144) 0 sc_144 := ⟨o144_0, o144_1, o144_2, o144_3, o144_4, o144_5, o144_6, o144_7, o144_8, o144_9, o144_10, trivial⟩
theorem o145_0 : OKp l S b Lx xs dC dI cA 145 0 (s_aload 0) := ok_aload_n (k9 := 0) (by decide +kernel) rfl rfl
theorem o145_1 : OKp l S b Lx xs dC dI cA 145 1 (s_getR (fun t => t == 12) 0) := ok_getR (by decide +kernel) rfl fd_RX12_9
theorem o145_2 : OKp l S b Lx xs dC dI cA 145 2 (s_const (3)) := ok_iconst (n := 3) (by decide +kernel) (by decide) rfl
theorem o145_3 : OKp l S b Lx xs dC dI cA 145 3 (s_const (18)) := ok_bipush (n := 18) (by decide +kernel) (by decide) rfl
theorem o145_4 : OKp l S b Lx xs dC dI cA 145 4 (s_iload 1) := ok_iload_n (k9 := 1) (by decide +kernel) rfl rfl
theorem o145_5 : OKp l S b Lx xs dC dI cA 145 5 (s_bin g_imul) := ok_imul (by decide +kernel) rfl
theorem o145_6 : OKp l S b Lx xs dC dI cA 145 6 (s_bin g_iadd) := ok_iadd (by decide +kernel) rfl
theorem o145_7 : OKp l S b Lx xs dC dI cA 145 7 (s_const (1)) := ok_iconst (n := 1) (by decide +kernel) (by decide) rfl
theorem o145_8 : OKp l S b Lx xs dC dI cA 145 8 (s_bin g_iadd) := ok_iadd (by decide +kernel) rfl
theorem o145_9 : OKp l S b Lx xs dC dI cA 145 9 (s_iload 2) := ok_iload_n (k9 := 2) (by decide +kernel) rfl rfl
theorem o145_10 : OKp l S b Lx xs dC dI cA 145 10 (s_iast) := ok_iast (by decide +kernel) rfl
theorem o145_11 : OKp l S b Lx xs dC dI cA 145 11 (s_vret) := ok_vret (by decide +kernel) rfl
theorem a145 (hl9 : l.stackTraces = false) : sm_all (OKp l S b Lx xs dC dI cA 145) 0 sc_145 := ⟨o145_0, o145_1, o145_2, o145_3, o145_4, o145_5, o145_6, o145_7, o145_8, o145_9, o145_10, o145_11, trivial⟩
theorem o146_0 : OKp l S b Lx xs dC dI cA 146 0 (s_aload 0) := ok_aload_n (k9 := 0) (by decide +kernel) rfl rfl
theorem o146_1 : OKp l S b Lx xs dC dI cA 146 1 (s_getR (fun t => t == 12) 0) := ok_getR (by decide +kernel) rfl fd_RX12_9
theorem o146_2 : OKp l S b Lx xs dC dI cA 146 2 (s_const (3)) := ok_iconst (n := 3) (by decide +kernel) (by decide) rfl
theorem o146_3 : OKp l S b Lx xs dC dI cA 146 3 (s_const (18)) := ok_bipush (n := 18) (by decide +kernel) (by decide) rfl
theorem o146_4 : OKp l S b Lx xs dC dI cA 146 4 (s_iload 1) := ok_iload_n (k9 := 1) (by decide +kernel) rfl rfl
theorem o146_5 : OKp l S b Lx xs dC dI cA 146 5 (s_bin g_imul) := ok_imul (by decide +kernel) rfl
theorem o146_6 : OKp l S b Lx xs dC dI cA 146 6 (s_bin g_iadd) := ok_iadd (by decide +kernel) rfl
theorem o146_7 : OKp l S b Lx xs dC dI cA 146 7 (s_const (2)) := ok_iconst (n := 2) (by decide +kernel) (by decide) rfl
theorem o146_8 : OKp l S b Lx xs dC dI cA 146 8 (s_bin g_iadd) := ok_iadd (by decide +kernel) rfl
theorem o146_9 : OKp l S b Lx xs dC dI cA 146 9 (s_iload 2) := ok_iload_n (k9 := 2) (by decide +kernel) rfl rfl
theorem o146_10 : OKp l S b Lx xs dC dI cA 146 10 (s_bin g_iadd) := ok_iadd (by decide +kernel) rfl
theorem o146_11 : OKp l S b Lx xs dC dI cA 146 11 (s_iald) := ok_iald (by decide +kernel) rfl
theorem o146_12 : OKp l S b Lx xs dC dI cA 146 12 (s_ret) := ok_ret (by decide +kernel) rfl
theorem a146 (hl9 : l.stackTraces = false) : sm_all (OKp l S b Lx xs dC dI cA 146) 0 sc_146 := ⟨o146_0, o146_1, o146_2, o146_3, o146_4, o146_5, o146_6, o146_7, o146_8, o146_9, o146_10, o146_11, o146_12, trivial⟩
theorem o147_0 : OKp l S b Lx xs dC dI cA 147 0 (s_aload 0) := ok_aload_n (k9 := 0) (by decide +kernel) rfl rfl
theorem o147_1 : OKp l S b Lx xs dC dI cA 147 1 (s_getR (fun t => t == 12) 0) := ok_getR (by decide +kernel) rfl fd_RX12_9
theorem o147_2 : OKp l S b Lx xs dC dI cA 147 2 (s_const (3)) := ok_iconst (n := 3) (by decide +kernel) (by decide) rfl
theorem o147_3 : OKp l S b Lx xs dC dI cA 147 3 (s_const (18)) := ok_bipush (n := 18) (by decide +kernel) (by decide) rfl
theorem o147_4 : OKp l S b Lx xs dC dI cA 147 4 (s_iload 1) := ok_iload_n (k9 := 1) (by decide +kernel) rfl rfl
theorem o147_5 : OKp l S b Lx xs dC dI cA 147 5 (s_bin g_imul) := ok_imul (by decide +kernel) rfl
theorem o147_6 : OKp l S b Lx xs dC dI cA 147 6 (s_bin g_iadd) := ok_iadd (by decide +kernel) rfl
theorem o147_7 : OKp l S b Lx xs dC dI cA 147 7 (s_const (10)) := ok_bipush (n := 10) (by decide +kernel) (by decide) rfl
theorem o147_8 : OKp l S b Lx xs dC dI cA 147 8 (s_bin g_iadd) := ok_iadd (by decide +kernel) rfl
theorem o147_9 : OKp l S b Lx xs dC dI cA 147 9 (s_iload 2) := ok_iload_n (k9 := 2) (by decide +kernel) rfl rfl
theorem o147_10 : OKp l S b Lx xs dC dI cA 147 10 (s_bin g_iadd) := ok_iadd (by decide +kernel) rfl
theorem o147_11 : OKp l S b Lx xs dC dI cA 147 11 (s_iald) := ok_iald (by decide +kernel) rfl
theorem o147_12 : OKp l S b Lx xs dC dI cA 147 12 (s_ret) := ok_ret (by decide +kernel) rfl
theorem a147 (hl9 : l.stackTraces = false) : sm_all (OKp l S b Lx xs dC dI cA 147) 0 sc_147 := ⟨o147_0, o147_1, o147_2, o147_3, o147_4, o147_5, o147_6, o147_7, o147_8, o147_9, o147_10, o147_11, o147_12, trivial⟩
theorem o148_0 : OKp l S b Lx xs dC dI cA 148 0 (s_aload 0) := ok_aload_n (k9 := 0) (by decide +kernel) rfl rfl
theorem o148_1 : OKp l S b Lx xs dC dI cA 148 1 (s_iload 1) := ok_iload_n (k9 := 1) (by decide +kernel) rfl rfl
theorem o148_2 : OKp l S b Lx xs dC dI cA 148 2 (s_invV (dv1 12 141 2) [] 1) := ok_invV (dv1_ok vc_RX12_59_12 rfl (by decide) (hXX 141 (by decide))) (by decide +kernel) rfl
theorem o148_3 : OKp l S b Lx xs dC dI cA 148 3 (s_if (fun x => x = 0) 17) := ok_if_eq (off := 24) (by decide +kernel) (by decide +kernel) rfl
theorem o148_4 : OKp l S b Lx xs dC dI cA 148 4 (s_iload 2) := ok_iload_n (k9 := 2) (by decide +kernel) rfl rfl
theorem o148_5 : OKp l S b Lx xs dC dI cA 148 5 (s_i2l) := ok_i2l (by decide +kernel) rfl
theorem o148_6 : OKp l S b Lx xs dC dI cA 148 6 (s_lconst 0) := ok_lconst (n := 0) (by decide +kernel) (by decide) rfl
theorem o148_7 : OKp l S b Lx xs dC dI cA 148 7 (s_aload 0) := ok_aload_n (k9 := 0) (by decide +kernel) rfl rfl
theorem o148_8 : OKp l S b Lx xs dC dI cA 148 8 (s_iload 1) := ok_iload_n (k9 := 1) (by decide +kernel) rfl rfl
theorem o148_9 : OKp l S b Lx xs dC dI cA 148 9 (s_invV (dv1 12 143 2) [] 1) := ok_invV (dv1_ok vc_RX12_63_12 rfl (by decide) (hXX 143 (by decide))) (by decide +kernel) rfl
theorem o148_10 : OKp l S b Lx xs dC dI cA 148 10 (s_const (1)) := ok_iconst (n := 1) (by decide +kernel) (by decide) rfl
theorem o148_11 : OKp l S b Lx xs dC dI cA 148 11 (s_bin g_isub) := ok_isub (by decide +kernel) rfl
theorem o148_12 : OKp l S b Lx xs dC dI cA 148 12 (s_i2l) := ok_i2l (by decide +kernel) rfl
theorem o148_13 : OKp l S b Lx xs dC dI cA 148 13 (s_invS 139 3 6) := ok_invS rfl rfl (by decide) (hXX 139 (by decide)) w_1012 w_1013 w_61 c_139 (by decide +kernel) (by decide +kernel) rfl
theorem o148_14 : OKp l S b Lx xs dC dI cA 148 14 (s_if (fun x => x = 0) 17) := ok_if_eq (off := 7) (by decide +kernel) (by decide +kernel) rfl
theorem o148_15 : OKp l S b Lx xs dC dI cA 148 15 (s_const (1)) := ok_iconst (n := 1) (by decide +kernel) (by decide) rfl
theorem o148_16 : OKp l S b Lx xs dC dI cA 148 16 (s_goto 18) := ok_goto (off := 4) (by decide +kernel) (by decide +kernel)
theorem o148_17 : OKp l S b Lx xs dC dI cA 148 17 (s_const (0)) := ok_iconst (n := 0) (by decide +kernel) (by decide) rfl
theorem o148_18 : OKp l S b Lx xs dC dI cA 148 18 (s_zret) := ok_zret (by decide +kernel) rfl
theorem a148 (hl9 : l.stackTraces = false) : sm_all (OKp l S b Lx xs dC dI cA 148) 0 sc_148 := ⟨o148_0, o148_1, o148_2, o148_3, o148_4, o148_5, o148_6, o148_7, o148_8, o148_9, o148_10, o148_11, o148_12, o148_13, o148_14, o148_15, o148_16, o148_17, o148_18, trivial⟩
theorem o149_0 : OKp l S b Lx xs dC dI cA 149 0 (s_aload 0) := ok_aload_n (k9 := 0) (by decide +kernel) rfl rfl
theorem o149_1 : OKp l S b Lx xs dC dI cA 149 1 (s_iload 1) := ok_iload_n (k9 := 1) (by decide +kernel) rfl rfl
theorem o149_2 : OKp l S b Lx xs dC dI cA 149 2 (s_invV (dv1 12 144 2) [] 1) := ok_invV (dv1_ok vc_RX12_67_12 rfl (by decide) (hXX 144 (by decide))) (by decide +kernel) rfl
theorem o149_3 : OKp l S b Lx xs dC dI cA 149 3 (s_iload 2) := ok_iload_n (k9 := 2) (by decide +kernel) rfl rfl
theorem o149_4 : OKp l S b Lx xs dC dI cA 149 4 (s_bin g_ishr) := ok_ishr (by decide +kernel) rfl
theorem o149_5 : OKp l S b Lx xs dC dI cA 149 5 (s_const (1)) := ok_iconst (n := 1) (by decide +kernel) (by decide) rfl
theorem o149_6 : OKp l S b Lx xs dC dI cA 149 6 (s_bin g_iand) := ok_iand (by decide +kernel) rfl
theorem o149_7 : OKp l S b Lx xs dC dI cA 149 7 (s_const (1)) := ok_iconst (n := 1) (by decide +kernel) (by decide) rfl
theorem o149_8 : OKp l S b Lx xs dC dI cA 149 8 (s_icmp (fun x y => x ≠ y) 11) := ok_icmp_ne (off := 7) (by decide +kernel) (by decide +kernel) rfl
theorem o149_9 : OKp l S b Lx xs dC dI cA 149 9 (s_const (1)) := ok_iconst (n := 1) (by decide +kernel) (by decide) rfl
theorem o149_10 : OKp l S b Lx xs dC dI cA 149 10 (s_goto 12) := ok_goto (off := 4) (by decide +kernel) (by decide +kernel)
theorem o149_11 : OKp l S b Lx xs dC dI cA 149 11 (s_const (0)) := ok_iconst (n := 0) (by decide +kernel) (by decide) rfl
theorem o149_12 : OKp l S b Lx xs dC dI cA 149 12 (s_zret) := ok_zret (by decide +kernel) rfl
theorem a149 (hl9 : l.stackTraces = false) : sm_all (OKp l S b Lx xs dC dI cA 149) 0 sc_149 := ⟨o149_0, o149_1, o149_2, o149_3, o149_4, o149_5, o149_6, o149_7, o149_8, o149_9, o149_10, o149_11, o149_12, trivial⟩
theorem o150_0 : OKp l S b Lx xs dC dI cA 150 0 (s_aload 0) := ok_aload_n (k9 := 0) (by decide +kernel) rfl rfl
theorem o150_1 : OKp l S b Lx xs dC dI cA 150 1 (s_getR (fun t => t == 12) 0) := ok_getR (by decide +kernel) rfl fd_RX12_9
theorem o150_2 : OKp l S b Lx xs dC dI cA 150 2 (s_const (75)) := ok_bipush (n := 75) (by decide +kernel) (by decide) rfl
theorem o150_3 : OKp l S b Lx xs dC dI cA 150 3 (s_const (2)) := ok_iconst (n := 2) (by decide +kernel) (by decide) rfl
theorem o150_4 : OKp l S b Lx xs dC dI cA 150 4 (s_iload 1) := ok_iload_n (k9 := 1) (by decide +kernel) rfl rfl
theorem o150_5 : OKp l S b Lx xs dC dI cA 150 5 (s_bin g_imul) := ok_imul (by decide +kernel) rfl
theorem o150_6 : OKp l S b Lx xs dC dI cA 150 6 (s_bin g_iadd) := ok_iadd (by decide +kernel) rfl
theorem o150_7 : OKp l S b Lx xs dC dI cA 150 7 (s_iald) := ok_iald (by decide +kernel) rfl
theorem o150_8 : OKp l S b Lx xs dC dI cA 150 8 (s_ret) := ok_ret (by decide +kernel) rfl
theorem a150 (hl9 : l.stackTraces = false) : sm_all (OKp l S b Lx xs dC dI cA 150) 0 sc_150 := ⟨o150_0, o150_1, o150_2, o150_3, o150_4, o150_5, o150_6, o150_7, o150_8, trivial⟩
theorem o151_0 : OKp l S b Lx xs dC dI cA 151 0 (s_aload 0) := ok_aload_n (k9 := 0) (by decide +kernel) rfl rfl
theorem o151_1 : OKp l S b Lx xs dC dI cA 151 1 (s_getR (fun t => t == 12) 0) := ok_getR (by decide +kernel) rfl fd_RX12_9
theorem o151_2 : OKp l S b Lx xs dC dI cA 151 2 (s_const (75)) := ok_bipush (n := 75) (by decide +kernel) (by decide) rfl
theorem o151_3 : OKp l S b Lx xs dC dI cA 151 3 (s_const (2)) := ok_iconst (n := 2) (by decide +kernel) (by decide) rfl
theorem o151_4 : OKp l S b Lx xs dC dI cA 151 4 (s_iload 1) := ok_iload_n (k9 := 1) (by decide +kernel) rfl rfl
theorem o151_5 : OKp l S b Lx xs dC dI cA 151 5 (s_bin g_imul) := ok_imul (by decide +kernel) rfl
theorem o151_6 : OKp l S b Lx xs dC dI cA 151 6 (s_bin g_iadd) := ok_iadd (by decide +kernel) rfl
theorem o151_7 : OKp l S b Lx xs dC dI cA 151 7 (s_const (1)) := ok_iconst (n := 1) (by decide +kernel) (by decide) rfl
theorem o151_8 : OKp l S b Lx xs dC dI cA 151 8 (s_bin g_iadd) := ok_iadd (by decide +kernel) rfl
theorem o151_9 : OKp l S b Lx xs dC dI cA 151 9 (s_iald) := ok_iald (by decide +kernel) rfl
theorem o151_10 : OKp l S b Lx xs dC dI cA 151 10 (s_ret) := ok_ret (by decide +kernel) rfl
theorem a151 (hl9 : l.stackTraces = false) : sm_all (OKp l S b Lx xs dC dI cA 151) 0 sc_151 := ⟨o151_0, o151_1, o151_2, o151_3, o151_4, o151_5, o151_6, o151_7, o151_8, o151_9, o151_10, trivial⟩
theorem o152_0 : OKp l S b Lx xs dC dI cA 152 0 (s_const (0)) := ok_iconst (n := 0) (by decide +kernel) (by decide) rfl
theorem o152_1 : OKp l S b Lx xs dC dI cA 152 1 (s_istore 2) := ok_istore_n (k9 := 2) (by decide +kernel) rfl rfl
theorem o152_2 : OKp l S b Lx xs dC dI cA 152 2 (s_iload 2) := ok_iload_n (k9 := 2) (by decide +kernel) rfl rfl
theorem o152_3 : OKp l S b Lx xs dC dI cA 152 3 (s_const (87)) := ok_bipush (n := 87) (by decide +kernel) (by decide) rfl
theorem o152_4 : OKp l S b Lx xs dC dI cA 152 4 (s_icmp (fun x y => y ≤ x) 13) := ok_icmp_ge (off := 15) (by decide +kernel) (by decide +kernel) rfl
theorem o152_5 : OKp l S b Lx xs dC dI cA 152 5 (s_aload 1) := ok_aload_n (k9 := 1) (by decide +kernel) rfl rfl
theorem o152_6 : OKp l S b Lx xs dC dI cA 152 6 (s_iload 2) := ok_iload_n (k9 := 2) (by decide +kernel) rfl rfl
theorem o152_7 : OKp l S b Lx xs dC dI cA 152 7 (s_aload 0) := ok_aload_n (k9 := 0) (by decide +kernel) rfl rfl
theorem o152_8 : OKp l S b Lx xs dC dI cA 152 8 (s_iload 2) := ok_iload_n (k9 := 2) (by decide +kernel) rfl rfl
theorem o152_9 : OKp l S b Lx xs dC dI cA 152 9 (s_iald) := ok_iald (by decide +kernel) rfl
theorem o152_10 : OKp l S b Lx xs dC dI cA 152 10 (s_iast) := ok_iast (by decide +kernel) rfl
theorem o152_11 : OKp l S b Lx xs dC dI cA 152 11 (s_iinc 2 (1)) := ok_iinc (n := 1) (by decide +kernel) (by decide) rfl
theorem o152_12 : OKp l S b Lx xs dC dI cA 152 12 (s_goto 2) := ok_goto (off := -15) (by decide +kernel) (by decide +kernel)
theorem o152_13 : OKp l S b Lx xs dC dI cA 152 13 (s_vret) := ok_vret (by decide +kernel) rfl
theorem a152 (hl9 : l.stackTraces = false) : sm_all (OKp l S b Lx xs dC dI cA 152) 0 sc_152 := ⟨o152_0, o152_1, o152_2, o152_3, o152_4, o152_5, o152_6, o152_7, o152_8, o152_9, o152_10, o152_11, o152_12, o152_13, trivial⟩
theorem o153_0 : OKp l S b Lx xs dC dI cA 153 0 (s_const (0)) := ok_iconst (n := 0) (by decide +kernel) (by decide) rfl
theorem o153_1 : OKp l S b Lx xs dC dI cA 153 1 (s_istore 1) := ok_istore_n (k9 := 1) (by decide +kernel) rfl rfl
theorem o153_2 : OKp l S b Lx xs dC dI cA 153 2 (s_iload 0) := ok_iload_n (k9 := 0) (by decide +kernel) rfl rfl
theorem o153_3 : OKp l S b Lx xs dC dI cA 153 3 (s_istore 2) := ok_istore_n (k9 := 2) (by decide +kernel) rfl rfl
theorem o153_4 : OKp l S b Lx xs dC dI cA 153 4 (s_iload 2) := ok_iload_n (k9 := 2) (by decide +kernel) rfl rfl
theorem o153_5 : OKp l S b Lx xs dC dI cA 153 5 (s_if (fun x => x ≤ 0) 17) := ok_if_le (off := 16) (by decide +kernel) (by decide +kernel) rfl
theorem o153_6 : OKp l S b Lx xs dC dI cA 153 6 (s_iload 1) := ok_iload_n (k9 := 1) (by decide +kernel) rfl rfl
theorem o153_7 : OKp l S b Lx xs dC dI cA 153 7 (s_iload 2) := ok_iload_n (k9 := 2) (by decide +kernel) rfl rfl
theorem o153_8 : OKp l S b Lx xs dC dI cA 153 8 (s_const (1)) := ok_iconst (n := 1) (by decide +kernel) (by decide) rfl
theorem o153_9 : OKp l S b Lx xs dC dI cA 153 9 (s_bin g_iand) := ok_iand (by decide +kernel) rfl
theorem o153_10 : OKp l S b Lx xs dC dI cA 153 10 (s_bin g_iadd) := ok_iadd (by decide +kernel) rfl
theorem o153_11 : OKp l S b Lx xs dC dI cA 153 11 (s_istore 1) := ok_istore_n (k9 := 1) (by decide +kernel) rfl rfl
theorem o153_12 : OKp l S b Lx xs dC dI cA 153 12 (s_iload 2) := ok_iload_n (k9 := 2) (by decide +kernel) rfl rfl
theorem o153_13 : OKp l S b Lx xs dC dI cA 153 13 (s_const (1)) := ok_iconst (n := 1) (by decide +kernel) (by decide) rfl
theorem o153_14 : OKp l S b Lx xs dC dI cA 153 14 (s_bin g_ishr) := ok_ishr (by decide +kernel) rfl
theorem o153_15 : OKp l S b Lx xs dC dI cA 153 15 (s_istore 2) := ok_istore_n (k9 := 2) (by decide +kernel) rfl rfl
theorem o153_16 : OKp l S b Lx xs dC dI cA 153 16 (s_goto 4) := ok_goto (off := -14) (by decide +kernel) (by decide +kernel)
theorem o153_17 : OKp l S b Lx xs dC dI cA 153 17 (s_iload 1) := ok_iload_n (k9 := 1) (by decide +kernel) rfl rfl
theorem o153_18 : OKp l S b Lx xs dC dI cA 153 18 (s_ret) := ok_ret (by decide +kernel) rfl
theorem a153 (hl9 : l.stackTraces = false) : sm_all (OKp l S b Lx xs dC dI cA 153) 0 sc_153 := ⟨o153_0, o153_1, o153_2, o153_3, o153_4, o153_5, o153_6, o153_7, o153_8, o153_9, o153_10, o153_11, o153_12, o153_13, o153_14, o153_15, o153_16, o153_17, o153_18, trivial⟩
theorem o154_0 : OKp l S b Lx xs dC dI cA 154 0 (s_const (0)) := ok_iconst (n := 0) (by decide +kernel) (by decide) rfl
theorem o154_1 : OKp l S b Lx xs dC dI cA 154 1 (s_istore 1) := ok_istore_n (k9 := 1) (by decide +kernel) rfl rfl
theorem o154_2 : OKp l S b Lx xs dC dI cA 154 2 (s_iload 1) := ok_iload_n (k9 := 1) (by decide +kernel) rfl rfl
theorem o154_3 : OKp l S b Lx xs dC dI cA 154 3 (s_const (8)) := ok_bipush (n := 8) (by decide +kernel) (by decide) rfl
theorem o154_4 : OKp l S b Lx xs dC dI cA 154 4 (s_icmp (fun x y => y ≤ x) 16) := ok_icmp_ge (off := 20) (by decide +kernel) (by decide +kernel) rfl
theorem o154_5 : OKp l S b Lx xs dC dI cA 154 5 (s_iload 0) := ok_iload_n (k9 := 0) (by decide +kernel) rfl rfl
theorem o154_6 : OKp l S b Lx xs dC dI cA 154 6 (s_iload 1) := ok_iload_n (k9 := 1) (by decide +kernel) rfl rfl
theorem o154_7 : OKp l S b Lx xs dC dI cA 154 7 (s_bin g_ishr) := ok_ishr (by decide +kernel) rfl
theorem o154_8 : OKp l S b Lx xs dC dI cA 154 8 (s_const (1)) := ok_iconst (n := 1) (by decide +kernel) (by decide) rfl
theorem o154_9 : OKp l S b Lx xs dC dI cA 154 9 (s_bin g_iand) := ok_iand (by decide +kernel) rfl
theorem o154_10 : OKp l S b Lx xs dC dI cA 154 10 (s_const (1)) := ok_iconst (n := 1) (by decide +kernel) (by decide) rfl
theorem o154_11 : OKp l S b Lx xs dC dI cA 154 11 (s_icmp (fun x y => x ≠ y) 14) := ok_icmp_ne (off := 5) (by decide +kernel) (by decide +kernel) rfl
theorem o154_12 : OKp l S b Lx xs dC dI cA 154 12 (s_iload 1) := ok_iload_n (k9 := 1) (by decide +kernel) rfl rfl
theorem o154_13 : OKp l S b Lx xs dC dI cA 154 13 (s_ret) := ok_ret (by decide +kernel) rfl
theorem o154_14 : OKp l S b Lx xs dC dI cA 154 14 (s_iinc 1 (1)) := ok_iinc (n := 1) (by decide +kernel) (by decide) rfl
theorem o154_15 : OKp l S b Lx xs dC dI cA 154 15 (s_goto 2) := ok_goto (off := -20) (by decide +kernel) (by decide +kernel)
theorem o154_16 : OKp l S b Lx xs dC dI cA 154 16 (s_const (-4)) := ok_bipush (n := -4) (by decide +kernel) (by decide) rfl
theorem o154_17 : OKp l S b Lx xs dC dI cA 154 17 (s_ret) := ok_ret (by decide +kernel) rfl
theorem a154 (hl9 : l.stackTraces = false) : sm_all (OKp l S b Lx xs dC dI cA 154) 0 sc_154 := ⟨o154_0, o154_1, o154_2, o154_3, o154_4, o154_5, o154_6, o154_7, o154_8, o154_9, o154_10, o154_11, o154_12, o154_13, o154_14, o154_15, o154_16, o154_17, trivial⟩
theorem o155_0 : OKp l S b Lx xs dC dI cA 155 0 (s_const (-4)) := ok_bipush (n := -4) (by decide +kernel) (by decide) rfl
theorem o155_1 : OKp l S b Lx xs dC dI cA 155 1 (s_istore 1) := ok_istore_n (k9 := 1) (by decide +kernel) rfl rfl
theorem o155_2 : OKp l S b Lx xs dC dI cA 155 2 (s_const (0)) := ok_iconst (n := 0) (by decide +kernel) (by decide) rfl
theorem o155_3 : OKp l S b Lx xs dC dI cA 155 3 (s_istore 2) := ok_istore_n (k9 := 2) (by decide +kernel) rfl rfl
theorem o155_4 : OKp l S b Lx xs dC dI cA 155 4 (s_iload 2) := ok_iload_n (k9 := 2) (by decide +kernel) rfl rfl
theorem o155_5 : OKp l S b Lx xs dC dI cA 155 5 (s_const (8)) := ok_bipush (n := 8) (by decide +kernel) (by decide) rfl
theorem o155_6 : OKp l S b Lx xs dC dI cA 155 6 (s_icmp (fun x y => y ≤ x) 18) := ok_icmp_ge (off := 20) (by decide +kernel) (by decide +kernel) rfl
theorem o155_7 : OKp l S b Lx xs dC dI cA 155 7 (s_iload 0) := ok_iload_n (k9 := 0) (by decide +kernel) rfl rfl
theorem o155_8 : OKp l S b Lx xs dC dI cA 155 8 (s_iload 2) := ok_iload_n (k9 := 2) (by decide +kernel) rfl rfl
theorem o155_9 : OKp l S b Lx xs dC dI cA 155 9 (s_bin g_ishr) := ok_ishr (by decide +kernel) rfl
theorem o155_10 : OKp l S b Lx xs dC dI cA 155 10 (s_const (1)) := ok_iconst (n := 1) (by decide +kernel) (by decide) rfl
theorem o155_11 : OKp l S b Lx xs dC dI cA 155 11 (s_bin g_iand) := ok_iand (by decide +kernel) rfl
theorem o155_12 : OKp l S b Lx xs dC dI cA 155 12 (s_const (1)) := ok_iconst (n := 1) (by decide +kernel) (by decide) rfl
theorem o155_13 : OKp l S b Lx xs dC dI cA 155 13 (s_icmp (fun x y => x ≠ y) 16) := ok_icmp_ne (off := 5) (by decide +kernel) (by decide +kernel) rfl
theorem o155_14 : OKp l S b Lx xs dC dI cA 155 14 (s_iload 2) := ok_iload_n (k9 := 2) (by decide +kernel) rfl rfl
theorem o155_15 : OKp l S b Lx xs dC dI cA 155 15 (s_istore 1) := ok_istore_n (k9 := 1) (by decide +kernel) rfl rfl
theorem o155_16 : OKp l S b Lx xs dC dI cA 155 16 (s_iinc 2 (1)) := ok_iinc (n := 1) (by decide +kernel) (by decide) rfl
theorem o155_17 : OKp l S b Lx xs dC dI cA 155 17 (s_goto 4) := ok_goto (off := -20) (by decide +kernel) (by decide +kernel)
theorem o155_18 : OKp l S b Lx xs dC dI cA 155 18 (s_iload 1) := ok_iload_n (k9 := 1) (by decide +kernel) rfl rfl
theorem o155_19 : OKp l S b Lx xs dC dI cA 155 19 (s_ret) := ok_ret (by decide +kernel) rfl
theorem a155 (hl9 : l.stackTraces = false) : sm_all (OKp l S b Lx xs dC dI cA 155) 0 sc_155 := ⟨o155_0, o155_1, o155_2, o155_3, o155_4, o155_5, o155_6, o155_7, o155_8, o155_9, o155_10, o155_11, o155_12, o155_13, o155_14, o155_15, o155_16, o155_17, o155_18, o155_19, trivial⟩
theorem o156_0 : OKp l S b Lx xs dC dI cA 156 0 (s_const (0)) := ok_iconst (n := 0) (by decide +kernel) (by decide) rfl
theorem o156_1 : OKp l S b Lx xs dC dI cA 156 1 (s_istore 3) := ok_istore_n (k9 := 3) (by decide +kernel) rfl rfl
theorem o156_2 : OKp l S b Lx xs dC dI cA 156 2 (s_const (0)) := ok_iconst (n := 0) (by decide +kernel) (by decide) rfl
theorem o156_3 : OKp l S b Lx xs dC dI cA 156 3 (s_istore 4) := ok_istore (by decide +kernel) rfl
theorem o156_4 : OKp l S b Lx xs dC dI cA 156 4 (s_iload 4) := ok_iload (by decide +kernel) rfl
theorem o156_5 : OKp l S b Lx xs dC dI cA 156 5 (s_aload 0) := ok_aload_n (k9 := 0) (by decide +kernel) rfl rfl
theorem o156_6 : OKp l S b Lx xs dC dI cA 156 6 (s_iload 1) := ok_iload_n (k9 := 1) (by decide +kernel) rfl rfl
theorem o156_7 : OKp l S b Lx xs dC dI cA 156 7 (s_invV (dv1 12 143 2) [] 1) := ok_invV (dv1_ok vc_RX12_63_12 rfl (by decide) (hXX 143 (by decide))) (by decide +kernel) rfl
theorem o156_8 : OKp l S b Lx xs dC dI cA 156 8 (s_icmp (fun x y => y ≤ x) 38) := ok_icmp_ge (off := 50) (by decide +kernel) (by decide +kernel) rfl
theorem o156_9 : OKp l S b Lx xs dC dI cA 156 9 (s_aload 0) := ok_aload_n (k9 := 0) (by decide +kernel) rfl rfl
theorem o156_10 : OKp l S b Lx xs dC dI cA 156 10 (s_iload 1) := ok_iload_n (k9 := 1) (by decide +kernel) rfl rfl
theorem o156_11 : OKp l S b Lx xs dC dI cA 156 11 (s_iload 4) := ok_iload (by decide +kernel) rfl
theorem o156_12 : OKp l S b Lx xs dC dI cA 156 12 (s_invV (dv1 12 146 3) [] 2) := ok_invV (dv1_ok vc_RX12_70_12 rfl (by decide) (hXX 146 (by decide))) (by decide +kernel) rfl
theorem o156_13 : OKp l S b Lx xs dC dI cA 156 13 (s_istore 5) := ok_istore (by decide +kernel) rfl
theorem o156_14 : OKp l S b Lx xs dC dI cA 156 14 (s_iload 2) := ok_iload_n (k9 := 2) (by decide +kernel) rfl rfl
theorem o156_15 : OKp l S b Lx xs dC dI cA 156 15 (s_iload 4) := ok_iload (by decide +kernel) rfl
theorem o156_16 : OKp l S b Lx xs dC dI cA 156 16 (s_bin g_ishr) := ok_ishr (by decide +kernel) rfl
theorem o156_17 : OKp l S b Lx xs dC dI cA 156 17 (s_const (1)) := ok_iconst (n := 1) (by decide +kernel) (by decide) rfl
theorem o156_18 : OKp l S b Lx xs dC dI cA 156 18 (s_bin g_iand) := ok_iand (by decide +kernel) rfl
theorem o156_19 : OKp l S b Lx xs dC dI cA 156 19 (s_const (1)) := ok_iconst (n := 1) (by decide +kernel) (by decide) rfl
theorem o156_20 : OKp l S b Lx xs dC dI cA 156 20 (s_icmp (fun x y => x ≠ y) 36) := ok_icmp_ne (off := 25) (by decide +kernel) (by decide +kernel) rfl
theorem o156_21 : OKp l S b Lx xs dC dI cA 156 21 (s_iload 5) := ok_iload (by decide +kernel) rfl
theorem o156_22 : OKp l S b Lx xs dC dI cA 156 22 (s_if (fun x => x < 0) 30) := ok_if_lt (off := 13) (by decide +kernel) (by decide +kernel) rfl
theorem o156_23 : OKp l S b Lx xs dC dI cA 156 23 (s_iload 3) := ok_iload_n (k9 := 3) (by decide +kernel) rfl rfl
theorem o156_24 : OKp l S b Lx xs dC dI cA 156 24 (s_iload 5) := ok_iload (by decide +kernel) rfl
theorem o156_25 : OKp l S b Lx xs dC dI cA 156 25 (s_bin g_ishr) := ok_ishr (by decide +kernel) rfl
theorem o156_26 : OKp l S b Lx xs dC dI cA 156 26 (s_const (1)) := ok_iconst (n := 1) (by decide +kernel) (by decide) rfl
theorem o156_27 : OKp l S b Lx xs dC dI cA 156 27 (s_bin g_iand) := ok_iand (by decide +kernel) rfl
theorem o156_28 : OKp l S b Lx xs dC dI cA 156 28 (s_const (1)) := ok_iconst (n := 1) (by decide +kernel) (by decide) rfl
theorem o156_29 : OKp l S b Lx xs dC dI cA 156 29 (s_icmp (fun x y => x ≠ y) 36) := ok_icmp_ne (off := 10) (by decide +kernel) (by decide +kernel) rfl
theorem o156_30 : OKp l S b Lx xs dC dI cA 156 30 (s_iload 3) := ok_iload_n (k9 := 3) (by decide +kernel) rfl rfl
theorem o156_31 : OKp l S b Lx xs dC dI cA 156 31 (s_const (1)) := ok_iconst (n := 1) (by decide +kernel) (by decide) rfl
theorem o156_32 : OKp l S b Lx xs dC dI cA 156 32 (s_iload 4) := ok_iload (by decide +kernel) rfl
theorem o156_33 : OKp l S b Lx xs dC dI cA 156 33 (s_bin g_ishl) := ok_ishl (by decide +kernel) rfl
theorem o156_34 : OKp l S b Lx xs dC dI cA 156 34 (s_bin g_ior) := ok_ior (by decide +kernel) rfl
theorem o156_35 : OKp l S b Lx xs dC dI cA 156 35 (s_istore 3) := ok_istore_n (k9 := 3) (by decide +kernel) rfl rfl
theorem o156_36 : OKp l S b Lx xs dC dI cA 156 36 (s_iinc 4 (1)) := ok_iinc (n := 1) (by decide +kernel) (by decide) rfl
theorem o156_37 : OKp l S b Lx xs dC dI cA 156 37 (s_goto 4) := ok_goto (off := -54) (by decide +kernel) (by decide +kernel)
theorem o156_38 : OKp l S b Lx xs dC dI cA 156 38 (s_iload 3) := ok_iload_n (k9 := 3) (by decide +kernel) rfl rfl
theorem o156_39 : OKp l S b Lx xs dC dI cA 156 39 (s_ret) := ok_ret (by decide +kernel) rfl
theorem a156 (hl9 : l.stackTraces = false) : sm_all (OKp l S b Lx xs dC dI cA 156) 0 sc_156 := ⟨o156_0, o156_1, o156_2, o156_3, o156_4, o156_5, o156_6, o156_7, o156_8, o156_9, o156_10, o156_11, o156_12, o156_13, o156_14, o156_15, o156_16, o156_17, o156_18, o156_19, o156_20, o156_21, o156_22, o156_23, o156_24, o156_25, o156_26, o156_27, o156_28, o156_29, o156_30, o156_31, o156_32, o156_33, o156_34, o156_35, o156_36, o156_37, o156_38, o156_39, trivial⟩
theorem o157_0 : OKp l S b Lx xs dC dI cA 157 0 (s_aload 0) := ok_aload_n (k9 := 0) (by decide +kernel) rfl rfl
theorem o157_1 : OKp l S b Lx xs dC dI cA 157 1 (s_iload 3) := ok_iload_n (k9 := 3) (by decide +kernel) rfl rfl
theorem o157_2 : OKp l S b Lx xs dC dI cA 157 2 (s_aload 0) := ok_aload_n (k9 := 0) (by decide +kernel) rfl rfl
theorem o157_3 : OKp l S b Lx xs dC dI cA 157 3 (s_iload 3) := ok_iload_n (k9 := 3) (by decide +kernel) rfl rfl
theorem o157_4 : OKp l S b Lx xs dC dI cA 157 4 (s_invV (dv1 12 144 2) [] 1) := ok_invV (dv1_ok vc_RX12_67_12 rfl (by decide) (hXX 144 (by decide))) (by decide +kernel) rfl
theorem o157_5 : OKp l S b Lx xs dC dI cA 157 5 (s_invV (dv1 12 156 6) [] 2) := ok_invV (dv1_ok vc_RX12_74_12 rfl (by decide) (hXX 156 (by decide))) (by decide +kernel) rfl
theorem o157_6 : OKp l S b Lx xs dC dI cA 157 6 (s_istore 4) := ok_istore (by decide +kernel) rfl
theorem o157_7 : OKp l S b Lx xs dC dI cA 157 7 (s_iload 4) := ok_iload (by decide +kernel) rfl
theorem o157_8 : OKp l S b Lx xs dC dI cA 157 8 (s_invS 153 1 3) := ok_invS rfl rfl (by decide) (hXX 153 (by decide)) w_1100 w_1101 w_61 c_153 (by decide +kernel) (by decide +kernel) rfl
theorem o157_9 : OKp l S b Lx xs dC dI cA 157 9 (s_istore 5) := ok_istore (by decide +kernel) rfl
theorem o157_10 : OKp l S b Lx xs dC dI cA 157 10 (s_iload 1) := ok_iload_n (k9 := 1) (by decide +kernel) rfl rfl
theorem o157_11 : OKp l S b Lx xs dC dI cA 157 11 (s_sw [(2, 12), (3, 16), (4, 12), (5, 12), (6, 33), (7, 12)] 37) := ok_table (dflt := 75) (lo := 2) (hi := 7) (offs := #[40, 45, 40, 40, 70, 40]) (len := 40) (by decide +kernel) (by decide +kernel) (by decide +kernel) (by decide +kernel) (by decide +kernel)
theorem o157_12 : OKp l S b Lx xs dC dI cA 157 12 (s_const (2)) := ok_iconst (n := 2) (by decide +kernel) (by decide) rfl
theorem o157_13 : OKp l S b Lx xs dC dI cA 157 13 (s_iload 5) := ok_iload (by decide +kernel) rfl
theorem o157_14 : OKp l S b Lx xs dC dI cA 157 14 (s_bin g_imul) := ok_imul (by decide +kernel) rfl
theorem o157_15 : OKp l S b Lx xs dC dI cA 157 15 (s_ret) := ok_ret (by decide +kernel) rfl
theorem o157_16 : OKp l S b Lx xs dC dI cA 157 16 (s_iload 5) := ok_iload (by decide +kernel) rfl
theorem o157_17 : OKp l S b Lx xs dC dI cA 157 17 (s_iload 4) := ok_iload (by decide +kernel) rfl
theorem o157_18 : OKp l S b Lx xs dC dI cA 157 18 (s_iload 2) := ok_iload_n (k9 := 2) (by decide +kernel) rfl rfl
theorem o157_19 : OKp l S b Lx xs dC dI cA 157 19 (s_aload 0) := ok_aload_n (k9 := 0) (by decide +kernel) rfl rfl
theorem o157_20 : OKp l S b Lx xs dC dI cA 157 20 (s_iload 3) := ok_iload_n (k9 := 3) (by decide +kernel) rfl rfl
theorem o157_21 : OKp l S b Lx xs dC dI cA 157 21 (s_invV (dv1 12 143 2) [] 1) := ok_invV (dv1_ok vc_RX12_63_12 rfl (by decide) (hXX 143 (by decide))) (by decide +kernel) rfl
theorem o157_22 : OKp l S b Lx xs dC dI cA 157 22 (s_dvr g_irem) := ok_irem (by decide +kernel) rfl
theorem o157_23 : OKp l S b Lx xs dC dI cA 157 23 (s_bin g_ishr) := ok_ishr (by decide +kernel) rfl
theorem o157_24 : OKp l S b Lx xs dC dI cA 157 24 (s_const (1)) := ok_iconst (n := 1) (by decide +kernel) (by decide) rfl
theorem o157_25 : OKp l S b Lx xs dC dI cA 157 25 (s_bin g_iand) := ok_iand (by decide +kernel) rfl
theorem o157_26 : OKp l S b Lx xs dC dI cA 157 26 (s_const (1)) := ok_iconst (n := 1) (by decide +kernel) (by decide) rfl
theorem o157_27 : OKp l S b Lx xs dC dI cA 157 27 (s_icmp (fun x y => x ≠ y) 30) := ok_icmp_ne (off := 7) (by decide +kernel) (by decide +kernel) rfl
theorem o157_28 : OKp l S b Lx xs dC dI cA 157 28 (s_iload 2) := ok_iload_n (k9 := 2) (by decide +kernel) rfl rfl
theorem o157_29 : OKp l S b Lx xs dC dI cA 157 29 (s_goto 31) := ok_goto (off := 4) (by decide +kernel) (by decide +kernel)
theorem o157_30 : OKp l S b Lx xs dC dI cA 157 30 (s_const (0)) := ok_iconst (n := 0) (by decide +kernel) (by decide) rfl
theorem o157_31 : OKp l S b Lx xs dC dI cA 157 31 (s_bin g_iadd) := ok_iadd (by decide +kernel) rfl
theorem o157_32 : OKp l S b Lx xs dC dI cA 157 32 (s_ret) := ok_ret (by decide +kernel) rfl
theorem o157_33 : OKp l S b Lx xs dC dI cA 157 33 (s_iload 5) := ok_iload (by decide +kernel) rfl
theorem o157_34 : OKp l S b Lx xs dC dI cA 157 34 (s_iload 2) := ok_iload_n (k9 := 2) (by decide +kernel) rfl rfl
theorem o157_35 : OKp l S b Lx xs dC dI cA 157 35 (s_bin g_iadd) := ok_iadd (by decide +kernel) rfl
theorem o157_36 : OKp l S b Lx xs dC dI cA 157 36 (s_ret) := ok_ret (by decide +kernel) rfl
theorem o157_37 : OKp l S b Lx xs dC dI cA 157 37 (s_iload 5) := ok_iload (by decide +kernel) rfl
theorem o157_38 : OKp l S b Lx xs dC dI cA 157 38 (s_ret) := ok_ret (by decide +kernel) rfl
theorem a157 (hl9 : l.stackTraces = false) : sm_all (OKp l S b Lx xs dC dI cA 157) 0 sc_157 := ⟨o157_0, o157_1, o157_2, o157_3, o157_4, o157_5, o157_6, o157_7, o157_8, o157_9, o157_10, o157_11, o157_12, o157_13, o157_14, o157_15, o157_16, o157_17, o157_18, o157_19, o157_20, o157_21, o157_22, o157_23, o157_24, o157_25, o157_26, o157_27, o157_28, o157_29, o157_30, o157_31, o157_32, o157_33, o157_34, o157_35, o157_36, o157_37, o157_38, trivial⟩
theorem o158_0 : OKp l S b Lx xs dC dI cA 158 0 (s_aload 0) := ok_aload_n (k9 := 0) (by decide +kernel) rfl rfl
theorem o158_1 : OKp l S b Lx xs dC dI cA 158 1 (s_aload 0) := ok_aload_n (k9 := 0) (by decide +kernel) rfl rfl
theorem o158_2 : OKp l S b Lx xs dC dI cA 158 2 (s_iload 1) := ok_iload_n (k9 := 1) (by decide +kernel) rfl rfl
theorem o158_3 : OKp l S b Lx xs dC dI cA 158 3 (s_invV (dv1 12 150 2) [] 1) := ok_invV (dv1_ok vc_RX12_80_12 rfl (by decide) (hXX 150 (by decide))) (by decide +kernel) rfl
theorem o158_4 : OKp l S b Lx xs dC dI cA 158 4 (s_aload 0) := ok_aload_n (k9 := 0) (by decide +kernel) rfl rfl
theorem o158_5 : OKp l S b Lx xs dC dI cA 158 5 (s_iload 1) := ok_iload_n (k9 := 1) (by decide +kernel) rfl rfl
theorem o158_6 : OKp l S b Lx xs dC dI cA 158 6 (s_invV (dv1 12 151 2) [] 1) := ok_invV (dv1_ok vc_RX12_83_12 rfl (by decide) (hXX 151 (by decide))) (by decide +kernel) rfl
theorem o158_7 : OKp l S b Lx xs dC dI cA 158 7 (s_iload 2) := ok_iload_n (k9 := 2) (by decide +kernel) rfl rfl
theorem o158_8 : OKp l S b Lx xs dC dI cA 158 8 (s_invV (dv1 12 157 6) [] 3) := ok_invV (dv1_ok vc_RX12_86_12 rfl (by decide) (hXX 157 (by decide))) (by decide +kernel) rfl
theorem o158_9 : OKp l S b Lx xs dC dI cA 158 9 (s_ret) := ok_ret (by decide +kernel) rfl
theorem a158 (hl9 : l.stackTraces = false) : sm_all (OKp l S b Lx xs dC dI cA 158) 0 sc_158 := ⟨o158_0, o158_1, o158_2, o158_3, o158_4, o158_5, o158_6, o158_7, o158_8, o158_9, trivial⟩
theorem o159_0 : OKp l S b Lx xs dC dI cA 159 0 (s_const (-4)) := ok_bipush (n := -4) (by decide +kernel) (by decide) rfl
theorem o159_1 : OKp l S b Lx xs dC dI cA 159 1 (s_istore 3) := ok_istore_n (k9 := 3) (by decide +kernel) rfl rfl
theorem o159_2 : OKp l S b Lx xs dC dI cA 159 2 (s_const (0)) := ok_iconst (n := 0) (by decide +kernel) (by decide) rfl
theorem o159_3 : OKp l S b Lx xs dC dI cA 159 3 (s_istore 4) := ok_istore (by decide +kernel) rfl
theorem o159_4 : OKp l S b Lx xs dC dI cA 159 4 (s_const (0)) := ok_iconst (n := 0) (by decide +kernel) (by decide) rfl
theorem o159_5 : OKp l S b Lx xs dC dI cA 159 5 (s_istore 5) := ok_istore (by decide +kernel) rfl
theorem o159_6 : OKp l S b Lx xs dC dI cA 159 6 (s_iload 5) := ok_iload (by decide +kernel) rfl
theorem o159_7 : OKp l S b Lx xs dC dI cA 159 7 (s_aload 0) := ok_aload_n (k9 := 0) (by decide +kernel) rfl rfl
theorem o159_8 : OKp l S b Lx xs dC dI cA 159 8 (s_iload 1) := ok_iload_n (k9 := 1) (by decide +kernel) rfl rfl
theorem o159_9 : OKp l S b Lx xs dC dI cA 159 9 (s_invV (dv1 12 143 2) [] 1) := ok_invV (dv1_ok vc_RX12_63_12 rfl (by decide) (hXX 143 (by decide))) (by decide +kernel) rfl
theorem o159_10 : OKp l S b Lx xs dC dI cA 159 10 (s_icmp (fun x y => y ≤ x) 49) := ok_icmp_ge (off := 79) (by decide +kernel) (by decide +kernel) rfl
theorem o159_11 : OKp l S b Lx xs dC dI cA 159 11 (s_aload 0) := ok_aload_n (k9 := 0) (by decide +kernel) rfl rfl
theorem o159_12 : OKp l S b Lx xs dC dI cA 159 12 (s_iload 1) := ok_iload_n (k9 := 1) (by decide +kernel) rfl rfl
theorem o159_13 : OKp l S b Lx xs dC dI cA 159 13 (s_iload 5) := ok_iload (by decide +kernel) rfl
theorem o159_14 : OKp l S b Lx xs dC dI cA 159 14 (s_invV (dv1 12 149 3) [] 2) := ok_invV (dv1_ok vc_RX12_90_12 rfl (by decide) (hXX 149 (by decide))) (by decide +kernel) rfl
theorem o159_15 : OKp l S b Lx xs dC dI cA 159 15 (s_if (fun x => x ≠ 0) 17) := ok_if_ne (off := 6) (by decide +kernel) (by decide +kernel) rfl
theorem o159_16 : OKp l S b Lx xs dC dI cA 159 16 (s_goto 47) := ok_goto (off := 60) (by decide +kernel) (by decide +kernel)
theorem o159_17 : OKp l S b Lx xs dC dI cA 159 17 (s_aload 0) := ok_aload_n (k9 := 0) (by decide +kernel) rfl rfl
theorem o159_18 : OKp l S b Lx xs dC dI cA 159 18 (s_iload 1) := ok_iload_n (k9 := 1) (by decide +kernel) rfl rfl
theorem o159_19 : OKp l S b Lx xs dC dI cA 159 19 (s_aload 0) := ok_aload_n (k9 := 0) (by decide +kernel) rfl rfl
theorem o159_20 : OKp l S b Lx xs dC dI cA 159 20 (s_iload 1) := ok_iload_n (k9 := 1) (by decide +kernel) rfl rfl
theorem o159_21 : OKp l S b Lx xs dC dI cA 159 21 (s_invV (dv1 12 144 2) [] 1) := ok_invV (dv1_ok vc_RX12_67_12 rfl (by decide) (hXX 144 (by decide))) (by decide +kernel) rfl
theorem o159_22 : OKp l S b Lx xs dC dI cA 159 22 (s_const (1)) := ok_iconst (n := 1) (by decide +kernel) (by decide) rfl
theorem o159_23 : OKp l S b Lx xs dC dI cA 159 23 (s_iload 5) := ok_iload (by decide +kernel) rfl
theorem o159_24 : OKp l S b Lx xs dC dI cA 159 24 (s_bin g_ishl) := ok_ishl (by decide +kernel) rfl
theorem o159_25 : OKp l S b Lx xs dC dI cA 159 25 (s_const (-1)) := ok_iconst (n := -1) (by decide +kernel) (by decide) rfl
theorem o159_26 : OKp l S b Lx xs dC dI cA 159 26 (s_bin g_ixor) := ok_ixor (by decide +kernel) rfl
theorem o159_27 : OKp l S b Lx xs dC dI cA 159 27 (s_bin g_iand) := ok_iand (by decide +kernel) rfl
theorem o159_28 : OKp l S b Lx xs dC dI cA 159 28 (s_invV (dv1 12 156 6) [] 2) := ok_invV (dv1_ok vc_RX12_74_12 rfl (by decide) (hXX 156 (by decide))) (by decide +kernel) rfl
theorem o159_29 : OKp l S b Lx xs dC dI cA 159 29 (s_invS 153 1 3) := ok_invS rfl rfl (by decide) (hXX 153 (by decide)) w_1100 w_1101 w_61 c_153 (by decide +kernel) (by decide +kernel) rfl
theorem o159_30 : OKp l S b Lx xs dC dI cA 159 30 (s_istore 6) := ok_istore (by decide +kernel) rfl
theorem o159_31 : OKp l S b Lx xs dC dI cA 159 31 (s_iload 3) := ok_iload_n (k9 := 3) (by decide +kernel) rfl rfl
theorem o159_32 : OKp l S b Lx xs dC dI cA 159 32 (s_if (fun x => x < 0) 43) := ok_if_lt (off := 27) (by decide +kernel) (by decide +kernel) rfl
theorem o159_33 : OKp l S b Lx xs dC dI cA 159 33 (s_iload 2) := ok_iload_n (k9 := 2) (by decide +kernel) rfl rfl
theorem o159_34 : OKp l S b Lx xs dC dI cA 159 34 (s_if (fun x => x = 0) 39) := ok_if_eq (off := 13) (by decide +kernel) (by decide +kernel) rfl
theorem o159_35 : OKp l S b Lx xs dC dI cA 159 35 (s_iload 6) := ok_iload (by decide +kernel) rfl
theorem o159_36 : OKp l S b Lx xs dC dI cA 159 36 (s_iload 4) := ok_iload (by decide +kernel) rfl
theorem o159_37 : OKp l S b Lx xs dC dI cA 159 37 (s_icmp (fun x y => y ≤ x) 43) := ok_icmp_ge (off := 16) (by decide +kernel) (by decide +kernel) rfl
theorem o159_38 : OKp l S b Lx xs dC dI cA 159 38 (s_goto 47) := ok_goto (off := 20) (by decide +kernel) (by decide +kernel)
theorem o159_39 : OKp l S b Lx xs dC dI cA 159 39 (s_iload 6) := ok_iload (by decide +kernel) rfl
theorem o159_40 : OKp l S b Lx xs dC dI cA 159 40 (s_iload 4) := ok_iload (by decide +kernel) rfl
theorem o159_41 : OKp l S b Lx xs dC dI cA 159 41 (s_icmp (fun x y => y < x) 43) := ok_icmp_gt (off := 6) (by decide +kernel) (by decide +kernel) rfl
theorem o159_42 : OKp l S b Lx xs dC dI cA 159 42 (s_goto 47) := ok_goto (off := 10) (by decide +kernel) (by decide +kernel)
theorem o159_43 : OKp l S b Lx xs dC dI cA 159 43 (s_iload 5) := ok_iload (by decide +kernel) rfl
theorem o159_44 : OKp l S b Lx xs dC dI cA 159 44 (s_istore 3) := ok_istore_n (k9 := 3) (by decide +kernel) rfl rfl
theorem o159_45 : OKp l S b Lx xs dC dI cA 159 45 (s_iload 6) := ok_iload (by decide +kernel) rfl
theorem o159_46 : OKp l S b Lx xs dC dI cA 159 46 (s_istore 4) := ok_istore (by decide +kernel) rfl
theorem o159_47 : OKp l S b Lx xs dC dI cA 159 47 (s_iinc 5 (1)) := ok_iinc (n := 1) (by decide +kernel) (by decide) rfl
theorem o159_48 : OKp l S b Lx xs dC dI cA 159 48 (s_goto 6) := ok_goto (off := -83) (by decide +kernel) (by decide +kernel)
theorem o159_49 : OKp l S b Lx xs dC dI cA 159 49 (s_iload 3) := ok_iload_n (k9 := 3) (by decide +kernel) rfl rfl
theorem o159_50 : OKp l S b Lx xs dC dI cA 159 50 (s_ret) := ok_ret (by decide +kernel) rfl
theorem a159 (hl9 : l.stackTraces = false) : sm_all (OKp l S b Lx xs dC dI cA 159) 0 sc_159 := ⟨o159_0, o159_1, o159_2, o159_3, o159_4, o159_5, o159_6, o159_7, o159_8, o159_9, o159_10, o159_11, o159_12, o159_13, o159_14, o159_15, o159_16, o159_17, o159_18, o159_19, o159_20, o159_21, o159_22, o159_23, o159_24, o159_25, o159_26, o159_27, o159_28, o159_29, o159_30, o159_31, o159_32, o159_33, o159_34, o159_35, o159_36, o159_37, o159_38, o159_39, o159_40, o159_41, o159_42, o159_43, o159_44, o159_45, o159_46, o159_47, o159_48, o159_49, o159_50, trivial⟩
theorem o160_0 : OKp l S b Lx xs dC dI cA 160 0 (s_aload 0) := ok_aload_n (k9 := 0) (by decide +kernel) rfl rfl
theorem o160_1 : OKp l S b Lx xs dC dI cA 160 1 (s_iload 3) := ok_iload_n (k9 := 3) (by decide +kernel) rfl rfl
theorem o160_2 : OKp l S b Lx xs dC dI cA 160 2 (s_invV (dv1 12 144 2) [] 1) := ok_invV (dv1_ok vc_RX12_67_12 rfl (by decide) (hXX 144 (by decide))) (by decide +kernel) rfl
theorem o160_3 : OKp l S b Lx xs dC dI cA 160 3 (s_istore 4) := ok_istore (by decide +kernel) rfl
theorem o160_4 : OKp l S b Lx xs dC dI cA 160 4 (s_iload 4) := ok_iload (by decide +kernel) rfl
theorem o160_5 : OKp l S b Lx xs dC dI cA 160 5 (s_if (fun x => x ≠ 0) 8) := ok_if_ne (off := 6) (by decide +kernel) (by decide +kernel) rfl
theorem o160_6 : OKp l S b Lx xs dC dI cA 160 6 (s_const (-4)) := ok_bipush (n := -4) (by decide +kernel) (by decide) rfl
theorem o160_7 : OKp l S b Lx xs dC dI cA 160 7 (s_ret) := ok_ret (by decide +kernel) rfl
theorem o160_8 : OKp l S b Lx xs dC dI cA 160 8 (s_iload 1) := ok_iload_n (k9 := 1) (by decide +kernel) rfl rfl
theorem o160_9 : OKp l S b Lx xs dC dI cA 160 9 (s_sw [(1, 10), (2, 13), (3, 18), (4, 64), (5, 36), (6, 41), (7, 53)] 64) := ok_table (dflt := 136) (lo := 1) (hi := 7) (offs := #[44, 50, 57, 136, 88, 95, 115]) (len := 44) (by decide +kernel) (by decide +kernel) (by decide +kernel) (by decide +kernel) (by decide +kernel)
theorem o160_10 : OKp l S b Lx xs dC dI cA 160 10 (s_iload 4) := ok_iload (by decide +kernel) rfl
theorem o160_11 : OKp l S b Lx xs dC dI cA 160 11 (s_invS 155 1 3) := ok_invS rfl rfl (by decide) (hXX 155 (by decide)) w_1107 w_1108 w_61 c_155 (by decide +kernel) (by decide +kernel) rfl
theorem o160_12 : OKp l S b Lx xs dC dI cA 160 12 (s_ret) := ok_ret (by decide +kernel) rfl
theorem o160_13 : OKp l S b Lx xs dC dI cA 160 13 (s_aload 0) := ok_aload_n (k9 := 0) (by decide +kernel) rfl rfl
theorem o160_14 : OKp l S b Lx xs dC dI cA 160 14 (s_iload 3) := ok_iload_n (k9 := 3) (by decide +kernel) rfl rfl
theorem o160_15 : OKp l S b Lx xs dC dI cA 160 15 (s_const (0)) := ok_iconst (n := 0) (by decide +kernel) (by decide) rfl
theorem o160_16 : OKp l S b Lx xs dC dI cA 160 16 (s_invV (dv1 12 159 7) [] 2) := ok_invV (dv1_ok vc_RX12_97_12 rfl (by decide) (hXX 159 (by decide))) (by decide +kernel) rfl
theorem o160_17 : OKp l S b Lx xs dC dI cA 160 17 (s_ret) := ok_ret (by decide +kernel) rfl
theorem o160_18 : OKp l S b Lx xs dC dI cA 160 18 (s_aload 0) := ok_aload_n (k9 := 0) (by decide +kernel) rfl rfl
theorem o160_19 : OKp l S b Lx xs dC dI cA 160 19 (s_iload 3) := ok_iload_n (k9 := 3) (by decide +kernel) rfl rfl
theorem o160_20 : OKp l S b Lx xs dC dI cA 160 20 (s_iload 2) := ok_iload_n (k9 := 2) (by decide +kernel) rfl rfl
theorem o160_21 : OKp l S b Lx xs dC dI cA 160 21 (s_aload 0) := ok_aload_n (k9 := 0) (by decide +kernel) rfl rfl
theorem o160_22 : OKp l S b Lx xs dC dI cA 160 22 (s_iload 3) := ok_iload_n (k9 := 3) (by decide +kernel) rfl rfl
theorem o160_23 : OKp l S b Lx xs dC dI cA 160 23 (s_invV (dv1 12 143 2) [] 1) := ok_invV (dv1_ok vc_RX12_63_12 rfl (by decide) (hXX 143 (by decide))) (by decide +kernel) rfl
theorem o160_24 : OKp l S b Lx xs dC dI cA 160 24 (s_dvr g_irem) := ok_irem (by decide +kernel) rfl
theorem o160_25 : OKp l S b Lx xs dC dI cA 160 25 (s_invV (dv1 12 149 3) [] 2) := ok_invV (dv1_ok vc_RX12_90_12 rfl (by decide) (hXX 149 (by decide))) (by decide +kernel) rfl
theorem o160_26 : OKp l S b Lx xs dC dI cA 160 26 (s_if (fun x => x = 0) 33) := ok_if_eq (off := 13) (by decide +kernel) (by decide +kernel) rfl
theorem o160_27 : OKp l S b Lx xs dC dI cA 160 27 (s_iload 2) := ok_iload_n (k9 := 2) (by decide +kernel) rfl rfl
theorem o160_28 : OKp l S b Lx xs dC dI cA 160 28 (s_aload 0) := ok_aload_n (k9 := 0) (by decide +kernel) rfl rfl
theorem o160_29 : OKp l S b Lx xs dC dI cA 160 29 (s_iload 3) := ok_iload_n (k9 := 3) (by decide +kernel) rfl rfl
theorem o160_30 : OKp l S b Lx xs dC dI cA 160 30 (s_invV (dv1 12 143 2) [] 1) := ok_invV (dv1_ok vc_RX12_63_12 rfl (by decide) (hXX 143 (by decide))) (by decide +kernel) rfl
theorem o160_31 : OKp l S b Lx xs dC dI cA 160 31 (s_dvr g_irem) := ok_irem (by decide +kernel) rfl
theorem o160_32 : OKp l S b Lx xs dC dI cA 160 32 (s_goto 35) := ok_goto (off := 8) (by decide +kernel) (by decide +kernel)
theorem o160_33 : OKp l S b Lx xs dC dI cA 160 33 (s_iload 4) := ok_iload (by decide +kernel) rfl
theorem o160_34 : OKp l S b Lx xs dC dI cA 160 34 (s_invS 155 1 3) := ok_invS rfl rfl (by decide) (hXX 155 (by decide)) w_1107 w_1108 w_61 c_155 (by decide +kernel) (by decide +kernel) rfl
theorem o160_35 : OKp l S b Lx xs dC dI cA 160 35 (s_ret) := ok_ret (by decide +kernel) rfl
theorem o160_36 : OKp l S b Lx xs dC dI cA 160 36 (s_aload 0) := ok_aload_n (k9 := 0) (by decide +kernel) rfl rfl
theorem o160_37 : OKp l S b Lx xs dC dI cA 160 37 (s_iload 3) := ok_iload_n (k9 := 3) (by decide +kernel) rfl rfl
theorem o160_38 : OKp l S b Lx xs dC dI cA 160 38 (s_const (1)) := ok_iconst (n := 1) (by decide +kernel) (by decide) rfl
theorem o160_39 : OKp l S b Lx xs dC dI cA 160 39 (s_invV (dv1 12 159 7) [] 2) := ok_invV (dv1_ok vc_RX12_97_12 rfl (by decide) (hXX 159 (by decide))) (by decide +kernel) rfl
theorem o160_40 : OKp l S b Lx xs dC dI cA 160 40 (s_ret) := ok_ret (by decide +kernel) rfl
theorem o160_41 : OKp l S b Lx xs dC dI cA 160 41 (s_iload 4) := ok_iload (by decide +kernel) rfl
theorem o160_42 : OKp l S b Lx xs dC dI cA 160 42 (s_iload 2) := ok_iload_n (k9 := 2) (by decide +kernel) rfl rfl
theorem o160_43 : OKp l S b Lx xs dC dI cA 160 43 (s_bin g_ishr) := ok_ishr (by decide +kernel) rfl
theorem o160_44 : OKp l S b Lx xs dC dI cA 160 44 (s_const (1)) := ok_iconst (n := 1) (by decide +kernel) (by decide) rfl
theorem o160_45 : OKp l S b Lx xs dC dI cA 160 45 (s_bin g_iand) := ok_iand (by decide +kernel) rfl
theorem o160_46 : OKp l S b Lx xs dC dI cA 160 46 (s_const (1)) := ok_iconst (n := 1) (by decide +kernel) (by decide) rfl
theorem o160_47 : OKp l S b Lx xs dC dI cA 160 47 (s_icmp (fun x y => x ≠ y) 50) := ok_icmp_ne (off := 7) (by decide +kernel) (by decide +kernel) rfl
theorem o160_48 : OKp l S b Lx xs dC dI cA 160 48 (s_iload 2) := ok_iload_n (k9 := 2) (by decide +kernel) rfl rfl
theorem o160_49 : OKp l S b Lx xs dC dI cA 160 49 (s_goto 52) := ok_goto (off := 8) (by decide +kernel) (by decide +kernel)
theorem o160_50 : OKp l S b Lx xs dC dI cA 160 50 (s_iload 4) := ok_iload (by decide +kernel) rfl
theorem o160_51 : OKp l S b Lx xs dC dI cA 160 51 (s_invS 154 1 2) := ok_invS rfl rfl (by decide) (hXX 154 (by decide)) w_1114 w_1115 w_61 c_154 (by decide +kernel) (by decide +kernel) rfl
theorem o160_52 : OKp l S b Lx xs dC dI cA 160 52 (s_ret) := ok_ret (by decide +kernel) rfl
theorem o160_53 : OKp l S b Lx xs dC dI cA 160 53 (s_iload 4) := ok_iload (by decide +kernel) rfl
theorem o160_54 : OKp l S b Lx xs dC dI cA 160 54 (s_invS 153 1 3) := ok_invS rfl rfl (by decide) (hXX 153 (by decide)) w_1100 w_1101 w_61 c_153 (by decide +kernel) (by decide +kernel) rfl
theorem o160_55 : OKp l S b Lx xs dC dI cA 160 55 (s_iload 2) := ok_iload_n (k9 := 2) (by decide +kernel) rfl rfl
theorem o160_56 : OKp l S b Lx xs dC dI cA 160 56 (s_icmp (fun x y => y < x) 59) := ok_icmp_gt (off := 8) (by decide +kernel) (by decide +kernel) rfl
theorem o160_57 : OKp l S b Lx xs dC dI cA 160 57 (s_const (-4)) := ok_bipush (n := -4) (by decide +kernel) (by decide) rfl
theorem o160_58 : OKp l S b Lx xs dC dI cA 160 58 (s_goto 63) := ok_goto (off := 9) (by decide +kernel) (by decide +kernel)
theorem o160_59 : OKp l S b Lx xs dC dI cA 160 59 (s_aload 0) := ok_aload_n (k9 := 0) (by decide +kernel) rfl rfl
theorem o160_60 : OKp l S b Lx xs dC dI cA 160 60 (s_iload 3) := ok_iload_n (k9 := 3) (by decide +kernel) rfl rfl
theorem o160_61 : OKp l S b Lx xs dC dI cA 160 61 (s_const (0)) := ok_iconst (n := 0) (by decide +kernel) (by decide) rfl
theorem o160_62 : OKp l S b Lx xs dC dI cA 160 62 (s_invV (dv1 12 159 7) [] 2) := ok_invV (dv1_ok vc_RX12_97_12 rfl (by decide) (hXX 159 (by decide))) (by decide +kernel) rfl
theorem o160_63 : OKp l S b Lx xs dC dI cA 160 63 (s_ret) := ok_ret (by decide +kernel) rfl
theorem o160_64 : OKp l S b Lx xs dC dI cA 160 64 (s_iload 4) := ok_iload (by decide +kernel) rfl
theorem o160_65 : OKp l S b Lx xs dC dI cA 160 65 (s_invS 154 1 2) := ok_invS rfl rfl (by decide) (hXX 154 (by decide)) w_1114 w_1115 w_61 c_154 (by decide +kernel) (by decide +kernel) rfl
theorem o160_66 : OKp l S b Lx xs dC dI cA 160 66 (s_ret) := ok_ret (by decide +kernel) rfl
theorem a160_0 (hl9 : l.stackTraces = false) : sm_all (OKp l S b Lx xs dC dI cA 160) 0 sc_160_0 := ⟨o160_0, o160_1, o160_2, o160_3, o160_4, o160_5, o160_6, o160_7, o160_8, o160_9, o160_10, o160_11, o160_12, o160_13, o160_14, o160_15, o160_16, o160_17, o160_18, o160_19, o160_20, o160_21, o160_22, o160_23, o160_24, o160_25, o160_26, o160_27, o160_28, o160_29, o160_30, o160_31, o160_32, o160_33, o160_34, o160_35, o160_36, o160_37, o160_38, o160_39, o160_40, o160_41, o160_42, o160_43, o160_44, o160_45, o160_46, o160_47, o160_48, o160_49, o160_50, o160_51, o160_52, o160_53, o160_54, o160_55, o160_56, o160_57, o160_58, o160_59, trivial⟩
theorem a160_1 (hl9 : l.stackTraces = false) : sm_all (OKp l S b Lx xs dC dI cA 160) 60 sc_160_1 := ⟨o160_60, o160_61, o160_62, o160_63, o160_64, o160_65, o160_66, trivial⟩
theorem a160 (hl9 : l.stackTraces = false) : sm_all (OKp l S b Lx xs dC dI cA 160) 0 sc_160 := sm_all_app _ _ _ (a160_0 hl9) (a160_1 hl9)
theorem o161_0 : OKp l S b Lx xs dC dI cA 161 0 (s_aload 0) := ok_aload_n (k9 := 0) (by decide +kernel) rfl rfl
theorem o161_1 : OKp l S b Lx xs dC dI cA 161 1 (s_iload 1) := ok_iload_n (k9 := 1) (by decide +kernel) rfl rfl
theorem o161_2 : OKp l S b Lx xs dC dI cA 161 2 (s_aload 0) := ok_aload_n (k9 := 0) (by decide +kernel) rfl rfl
theorem o161_3 : OKp l S b Lx xs dC dI cA 161 3 (s_iload 1) := ok_iload_n (k9 := 1) (by decide +kernel) rfl rfl
theorem o161_4 : OKp l S b Lx xs dC dI cA 161 4 (s_invV (dv1 12 144 2) [] 1) := ok_invV (dv1_ok vc_RX12_67_12 rfl (by decide) (hXX 144 (by decide))) (by decide +kernel) rfl
theorem o161_5 : OKp l S b Lx xs dC dI cA 161 5 (s_const (1)) := ok_iconst (n := 1) (by decide +kernel) (by decide) rfl
theorem o161_6 : OKp l S b Lx xs dC dI cA 161 6 (s_iload 2) := ok_iload_n (k9 := 2) (by decide +kernel) rfl rfl
theorem o161_7 : OKp l S b Lx xs dC dI cA 161 7 (s_bin g_ishl) := ok_ishl (by decide +kernel) rfl
theorem o161_8 : OKp l S b Lx xs dC dI cA 161 8 (s_const (-1)) := ok_iconst (n := -1) (by decide +kernel) (by decide) rfl
theorem o161_9 : OKp l S b Lx xs dC dI cA 161 9 (s_bin g_ixor) := ok_ixor (by decide +kernel) rfl
theorem o161_10 : OKp l S b Lx xs dC dI cA 161 10 (s_bin g_iand) := ok_iand (by decide +kernel) rfl
theorem o161_11 : OKp l S b Lx xs dC dI cA 161 11 (s_invV (dv1 12 145 3) [] 2) := ok_invV (dv1_ok vc_RX12_104_12 rfl (by decide) (hXX 145 (by decide))) (by decide +kernel) rfl
theorem o161_12 : OKp l S b Lx xs dC dI cA 161 12 (s_aload 0) := ok_aload_n (k9 := 0) (by decide +kernel) rfl rfl
theorem o161_13 : OKp l S b Lx xs dC dI cA 161 13 (s_getR (fun t => t == 12) 0) := ok_getR (by decide +kernel) rfl fd_RX12_9
theorem o161_14 : OKp l S b Lx xs dC dI cA 161 14 (s_const (3)) := ok_iconst (n := 3) (by decide +kernel) (by decide) rfl
theorem o161_15 : OKp l S b Lx xs dC dI cA 161 15 (s_const (18)) := ok_bipush (n := 18) (by decide +kernel) (by decide) rfl
theorem o161_16 : OKp l S b Lx xs dC dI cA 161 16 (s_iload 1) := ok_iload_n (k9 := 1) (by decide +kernel) rfl rfl
theorem o161_17 : OKp l S b Lx xs dC dI cA 161 17 (s_bin g_imul) := ok_imul (by decide +kernel) rfl
theorem o161_18 : OKp l S b Lx xs dC dI cA 161 18 (s_bin g_iadd) := ok_iadd (by decide +kernel) rfl
theorem o161_19 : OKp l S b Lx xs dC dI cA 161 19 (s_const (10)) := ok_bipush (n := 10) (by decide +kernel) (by decide) rfl
theorem o161_20 : OKp l S b Lx xs dC dI cA 161 20 (s_bin g_iadd) := ok_iadd (by decide +kernel) rfl
theorem o161_21 : OKp l S b Lx xs dC dI cA 161 21 (s_iload 2) := ok_iload_n (k9 := 2) (by decide +kernel) rfl rfl
theorem o161_22 : OKp l S b Lx xs dC dI cA 161 22 (s_bin g_iadd) := ok_iadd (by decide +kernel) rfl
theorem o161_23 : OKp l S b Lx xs dC dI cA 161 23 (s_iload 3) := ok_iload_n (k9 := 3) (by decide +kernel) rfl rfl
theorem o161_24 : OKp l S b Lx xs dC dI cA 161 24 (s_iast) := ok_iast (by decide +kernel) rfl
theorem o161_25 : OKp l S b Lx xs dC dI cA 161 25 (s_vret) := ok_vret (by decide +kernel) rfl
theorem a161 (hl9 : l.stackTraces = false) : sm_all (OKp l S b Lx xs dC dI cA 161) 0 sc_161 := ⟨o161_0, o161_1, o161_2, o161_3, o161_4, o161_5, o161_6, o161_7, o161_8, o161_9, o161_10, o161_11, o161_12, o161_13, o161_14, o161_15, o161_16, o161_17, o161_18, o161_19, o161_20, o161_21, o161_22, o161_23, o161_24, o161_25, trivial⟩
theorem o162_0 : OKp l S b Lx xs dC dI cA 162 0 (s_aload 0) := ok_aload_n (k9 := 0) (by decide +kernel) rfl rfl
theorem o162_1 : OKp l S b Lx xs dC dI cA 162 1 (s_iload 1) := ok_iload_n (k9 := 1) (by decide +kernel) rfl rfl
theorem o162_2 : OKp l S b Lx xs dC dI cA 162 2 (s_iload 2) := ok_iload_n (k9 := 2) (by decide +kernel) rfl rfl
theorem o162_3 : OKp l S b Lx xs dC dI cA 162 3 (s_invV (dv1 12 158 3) [] 2) := ok_invV (dv1_ok vc_RX12_108_12 rfl (by decide) (hXX 158 (by decide))) (by decide +kernel) rfl
theorem o162_4 : OKp l S b Lx xs dC dI cA 162 4 (s_istore 3) := ok_istore_n (k9 := 3) (by decide +kernel) rfl rfl
theorem o162_5 : OKp l S b Lx xs dC dI cA 162 5 (s_aload 0) := ok_aload_n (k9 := 0) (by decide +kernel) rfl rfl
theorem o162_6 : OKp l S b Lx xs dC dI cA 162 6 (s_aload 0) := ok_aload_n (k9 := 0) (by decide +kernel) rfl rfl
theorem o162_7 : OKp l S b Lx xs dC dI cA 162 7 (s_iload 1) := ok_iload_n (k9 := 1) (by decide +kernel) rfl rfl
theorem o162_8 : OKp l S b Lx xs dC dI cA 162 8 (s_invV (dv1 12 150 2) [] 1) := ok_invV (dv1_ok vc_RX12_80_12 rfl (by decide) (hXX 150 (by decide))) (by decide +kernel) rfl
theorem o162_9 : OKp l S b Lx xs dC dI cA 162 9 (s_aload 0) := ok_aload_n (k9 := 0) (by decide +kernel) rfl rfl
theorem o162_10 : OKp l S b Lx xs dC dI cA 162 10 (s_iload 1) := ok_iload_n (k9 := 1) (by decide +kernel) rfl rfl
theorem o162_11 : OKp l S b Lx xs dC dI cA 162 11 (s_invV (dv1 12 151 2) [] 1) := ok_invV (dv1_ok vc_RX12_83_12 rfl (by decide) (hXX 151 (by decide))) (by decide +kernel) rfl
theorem o162_12 : OKp l S b Lx xs dC dI cA 162 12 (s_iload 2) := ok_iload_n (k9 := 2) (by decide +kernel) rfl rfl
theorem o162_13 : OKp l S b Lx xs dC dI cA 162 13 (s_invV (dv1 12 160 5) [] 3) := ok_invV (dv1_ok vc_RX12_111_12 rfl (by decide) (hXX 160 (by decide))) (by decide +kernel) rfl
theorem o162_14 : OKp l S b Lx xs dC dI cA 162 14 (s_istore 4) := ok_istore (by decide +kernel) rfl
theorem o162_15 : OKp l S b Lx xs dC dI cA 162 15 (s_iload 4) := ok_iload (by decide +kernel) rfl
theorem o162_16 : OKp l S b Lx xs dC dI cA 162 16 (s_if (fun x => x < 0) 22) := ok_if_lt (off := 11) (by decide +kernel) (by decide +kernel) rfl
theorem o162_17 : OKp l S b Lx xs dC dI cA 162 17 (s_aload 0) := ok_aload_n (k9 := 0) (by decide +kernel) rfl rfl
theorem o162_18 : OKp l S b Lx xs dC dI cA 162 18 (s_iload 2) := ok_iload_n (k9 := 2) (by decide +kernel) rfl rfl
theorem o162_19 : OKp l S b Lx xs dC dI cA 162 19 (s_iload 4) := ok_iload (by decide +kernel) rfl
theorem o162_20 : OKp l S b Lx xs dC dI cA 162 20 (s_iload 1) := ok_iload_n (k9 := 1) (by decide +kernel) rfl rfl
theorem o162_21 : OKp l S b Lx xs dC dI cA 162 21 (s_invV (dv1 12 161 4) [] 3) := ok_invV (dv1_ok vc_RX12_114_12 rfl (by decide) (hXX 161 (by decide))) (by decide +kernel) rfl
theorem o162_22 : OKp l S b Lx xs dC dI cA 162 22 (s_iload 4) := ok_iload (by decide +kernel) rfl
theorem o162_23 : OKp l S b Lx xs dC dI cA 162 23 (s_if (fun x => x < 0) 41) := ok_if_lt (off := 34) (by decide +kernel) (by decide +kernel) rfl
theorem o162_24 : OKp l S b Lx xs dC dI cA 162 24 (s_aload 0) := ok_aload_n (k9 := 0) (by decide +kernel) rfl rfl
theorem o162_25 : OKp l S b Lx xs dC dI cA 162 25 (s_iload 1) := ok_iload_n (k9 := 1) (by decide +kernel) rfl rfl
theorem o162_26 : OKp l S b Lx xs dC dI cA 162 26 (s_invV (dv1 12 150 2) [] 1) := ok_invV (dv1_ok vc_RX12_80_12 rfl (by decide) (hXX 150 (by decide))) (by decide +kernel) rfl
theorem o162_27 : OKp l S b Lx xs dC dI cA 162 27 (s_const (4)) := ok_iconst (n := 4) (by decide +kernel) (by decide) rfl
theorem o162_28 : OKp l S b Lx xs dC dI cA 162 28 (s_icmp (fun x y => x ≠ y) 41) := ok_icmp_ne (off := 25) (by decide +kernel) (by decide +kernel) rfl
theorem o162_29 : OKp l S b Lx xs dC dI cA 162 29 (s_aload 0) := ok_aload_n (k9 := 0) (by decide +kernel) rfl rfl
theorem o162_30 : OKp l S b Lx xs dC dI cA 162 30 (s_iload 2) := ok_iload_n (k9 := 2) (by decide +kernel) rfl rfl
theorem o162_31 : OKp l S b Lx xs dC dI cA 162 31 (s_invV (dv1 12 144 2) [] 1) := ok_invV (dv1_ok vc_RX12_67_12 rfl (by decide) (hXX 144 (by decide))) (by decide +kernel) rfl
theorem o162_32 : OKp l S b Lx xs dC dI cA 162 32 (s_if (fun x => x = 0) 41) := ok_if_eq (off := 17) (by decide +kernel) (by decide +kernel) rfl
theorem o162_33 : OKp l S b Lx xs dC dI cA 162 33 (s_aload 0) := ok_aload_n (k9 := 0) (by decide +kernel) rfl rfl
theorem o162_34 : OKp l S b Lx xs dC dI cA 162 34 (s_iload 2) := ok_iload_n (k9 := 2) (by decide +kernel) rfl rfl
theorem o162_35 : OKp l S b Lx xs dC dI cA 162 35 (s_aload 0) := ok_aload_n (k9 := 0) (by decide +kernel) rfl rfl
theorem o162_36 : OKp l S b Lx xs dC dI cA 162 36 (s_iload 2) := ok_iload_n (k9 := 2) (by decide +kernel) rfl rfl
theorem o162_37 : OKp l S b Lx xs dC dI cA 162 37 (s_invV (dv1 12 144 2) [] 1) := ok_invV (dv1_ok vc_RX12_67_12 rfl (by decide) (hXX 144 (by decide))) (by decide +kernel) rfl
theorem o162_38 : OKp l S b Lx xs dC dI cA 162 38 (s_invS 154 1 2) := ok_invS rfl rfl (by decide) (hXX 154 (by decide)) w_1114 w_1115 w_61 c_154 (by decide +kernel) (by decide +kernel) rfl
theorem o162_39 : OKp l S b Lx xs dC dI cA 162 39 (s_iload 1) := ok_iload_n (k9 := 1) (by decide +kernel) rfl rfl
theorem o162_40 : OKp l S b Lx xs dC dI cA 162 40 (s_invV (dv1 12 161 4) [] 3) := ok_invV (dv1_ok vc_RX12_114_12 rfl (by decide) (hXX 161 (by decide))) (by decide +kernel) rfl
theorem o162_41 : OKp l S b Lx xs dC dI cA 162 41 (s_aload 0) := ok_aload_n (k9 := 0) (by decide +kernel) rfl rfl
theorem o162_42 : OKp l S b Lx xs dC dI cA 162 42 (s_getR (fun t => t == 12) 0) := ok_getR (by decide +kernel) rfl fd_RX12_9
theorem o162_43 : OKp l S b Lx xs dC dI cA 162 43 (s_const (2)) := ok_iconst (n := 2) (by decide +kernel) (by decide) rfl
theorem o162_44 : OKp l S b Lx xs dC dI cA 162 44 (s_dup2) := ok_dup2 (by decide +kernel) rfl
theorem o162_45 : OKp l S b Lx xs dC dI cA 162 45 (s_iald) := ok_iald (by decide +kernel) rfl
theorem o162_46 : OKp l S b Lx xs dC dI cA 162 46 (s_const (1)) := ok_iconst (n := 1) (by decide +kernel) (by decide) rfl
theorem o162_47 : OKp l S b Lx xs dC dI cA 162 47 (s_bin g_iadd) := ok_iadd (by decide +kernel) rfl
theorem o162_48 : OKp l S b Lx xs dC dI cA 162 48 (s_iast) := ok_iast (by decide +kernel) rfl
theorem o162_49 : OKp l S b Lx xs dC dI cA 162 49 (s_iload 3) := ok_iload_n (k9 := 3) (by decide +kernel) rfl rfl
theorem o162_50 : OKp l S b Lx xs dC dI cA 162 50 (s_ret) := ok_ret (by decide +kernel) rfl
theorem a162 (hl9 : l.stackTraces = false) : sm_all (OKp l S b Lx xs dC dI cA 162) 0 sc_162 := ⟨o162_0, o162_1, o162_2, o162_3, o162_4, o162_5, o162_6, o162_7, o162_8, o162_9, o162_10, o162_11, o162_12, o162_13, o162_14, o162_15, o162_16, o162_17, o162_18, o162_19, o162_20, o162_21, o162_22, o162_23, o162_24, o162_25, o162_26, o162_27, o162_28, o162_29, o162_30, o162_31, o162_32, o162_33, o162_34, o162_35, o162_36, o162_37, o162_38, o162_39, o162_40, o162_41, o162_42, o162_43, o162_44, o162_45, o162_46, o162_47, o162_48, o162_49, o162_50, trivial⟩
theorem o163_0 : OKp l S b Lx xs dC dI cA 163 0 (s_aload 0) := ok_aload_n (k9 := 0) (by decide +kernel) rfl rfl
theorem o163_1 : OKp l S b Lx xs dC dI cA 163 1 (s_getI (fun t => t == 12) 12) := ok_getI (by decide +kernel) rfl fd_RX12_118
theorem o163_2 : OKp l S b Lx xs dC dI cA 163 2 (s_aload 0) := ok_aload_n (k9 := 0) (by decide +kernel) rfl rfl
theorem o163_3 : OKp l S b Lx xs dC dI cA 163 3 (s_getI (fun t => t == 12) 14) := ok_getI (by decide +kernel) rfl fd_RX12_121
theorem o163_4 : OKp l S b Lx xs dC dI cA 163 4 (s_icmp (fun x y => y ≤ x) 14) := ok_icmp_ge (off := 20) (by decide +kernel) (by decide +kernel) rfl
theorem o163_5 : OKp l S b Lx xs dC dI cA 163 5 (s_aload 0) := ok_aload_n (k9 := 0) (by decide +kernel) rfl rfl
theorem o163_6 : OKp l S b Lx xs dC dI cA 163 6 (s_getR (fun t => t == 12) 7) := ok_getR (by decide +kernel) rfl fd_RX12_31
theorem o163_7 : OKp l S b Lx xs dC dI cA 163 7 (s_aload 0) := ok_aload_n (k9 := 0) (by decide +kernel) rfl rfl
theorem o163_8 : OKp l S b Lx xs dC dI cA 163 8 (s_getI (fun t => t == 12) 13) := ok_getI (by decide +kernel) rfl fd_RX12_124
theorem o163_9 : OKp l S b Lx xs dC dI cA 163 9 (s_aload 0) := ok_aload_n (k9 := 0) (by decide +kernel) rfl rfl
theorem o163_10 : OKp l S b Lx xs dC dI cA 163 10 (s_getI (fun t => t == 12) 12) := ok_getI (by decide +kernel) rfl fd_RX12_118
theorem o163_11 : OKp l S b Lx xs dC dI cA 163 11 (s_bin g_iadd) := ok_iadd (by decide +kernel) rfl
theorem o163_12 : OKp l S b Lx xs dC dI cA 163 12 (s_iald) := ok_iald (by decide +kernel) rfl
theorem o163_13 : OKp l S b Lx xs dC dI cA 163 13 (s_goto 15) := ok_goto (off := 6) (by decide +kernel) (by decide +kernel)
theorem o163_14 : OKp l S b Lx xs dC dI cA 163 14 (s_const (-1000)) := ok_sipush (n := -1000) (by decide +kernel) (by decide) rfl
theorem o163_15 : OKp l S b Lx xs dC dI cA 163 15 (s_ret) := ok_ret (by decide +kernel) rfl
theorem a163 (hl9 : l.stackTraces = false) : sm_all (OKp l S b Lx xs dC dI cA 163) 0 sc_163 := ⟨o163_0, o163_1, o163_2, o163_3, o163_4, o163_5, o163_6, o163_7, o163_8, o163_9, o163_10, o163_11, o163_12, o163_13, o163_14, o163_15, trivial⟩
theorem o164_0 : OKp l S b Lx xs dC dI cA 164 0 (s_const (0)) := ok_iconst (n := 0) (by decide +kernel) (by decide) rfl
theorem o164_1 : OKp l S b Lx xs dC dI cA 164 1 (s_istore 2) := ok_istore_n (k9 := 2) (by decide +kernel) rfl rfl
theorem o164_2 : OKp l S b Lx xs dC dI cA 164 2 (s_iload 2) := ok_iload_n (k9 := 2) (by decide +kernel) rfl rfl
theorem o164_3 : OKp l S b Lx xs dC dI cA 164 3 (s_iload 1) := ok_iload_n (k9 := 1) (by decide +kernel) rfl rfl
theorem o164_4 : OKp l S b Lx xs dC dI cA 164 4 (s_icmp (fun x y => y ≤ x) 30) := ok_icmp_ge (off := 51) (by decide +kernel) (by decide +kernel) rfl
theorem o164_5 : OKp l S b Lx xs dC dI cA 164 5 (s_aload 0) := ok_aload_n (k9 := 0) (by decide +kernel) rfl rfl
theorem o164_6 : OKp l S b Lx xs dC dI cA 164 6 (s_invV (dv1 12 163 1) [] 0) := ok_invV (dv1_ok vc_RX12_127_12 rfl (by decide) (hXX 163 (by decide))) (by decide +kernel) rfl
theorem o164_7 : OKp l S b Lx xs dC dI cA 164 7 (s_i2l) := ok_i2l (by decide +kernel) rfl
theorem o164_8 : OKp l S b Lx xs dC dI cA 164 8 (s_lconst (48)) := ok_ldc2 (k := 131) (by decide +kernel) w_1027 rfl
theorem o164_9 : OKp l S b Lx xs dC dI cA 164 9 (s_lconst (57)) := ok_ldc2 (k := 133) (by decide +kernel) w_1028 rfl
theorem o164_10 : OKp l S b Lx xs dC dI cA 164 10 (s_invS 139 3 6) := ok_invS rfl rfl (by decide) (hXX 139 (by decide)) w_1012 w_1013 w_61 c_139 (by decide +kernel) (by decide +kernel) rfl
theorem o164_11 : OKp l S b Lx xs dC dI cA 164 11 (s_if (fun x => x ≠ 0) 14) := ok_if_ne (off := 5) (by decide +kernel) (by decide +kernel) rfl
theorem o164_12 : OKp l S b Lx xs dC dI cA 164 12 (s_const (0)) := ok_iconst (n := 0) (by decide +kernel) (by decide) rfl
theorem o164_13 : OKp l S b Lx xs dC dI cA 164 13 (s_zret) := ok_zret (by decide +kernel) rfl
theorem o164_14 : OKp l S b Lx xs dC dI cA 164 14 (s_aload 0) := ok_aload_n (k9 := 0) (by decide +kernel) rfl rfl
theorem o164_15 : OKp l S b Lx xs dC dI cA 164 15 (s_getR (fun t => t == 12) 15) := ok_getR (by decide +kernel) rfl fd_RX12_40
theorem o164_16 : OKp l S b Lx xs dC dI cA 164 16 (s_iload 2) := ok_iload_n (k9 := 2) (by decide +kernel) rfl rfl
theorem o164_17 : OKp l S b Lx xs dC dI cA 164 17 (s_aload 0) := ok_aload_n (k9 := 0) (by decide +kernel) rfl rfl
theorem o164_18 : OKp l S b Lx xs dC dI cA 164 18 (s_invV (dv1 12 163 1) [] 0) := ok_invV (dv1_ok vc_RX12_127_12 rfl (by decide) (hXX 163 (by decide))) (by decide +kernel) rfl
theorem o164_19 : OKp l S b Lx xs dC dI cA 164 19 (s_const (48)) := ok_bipush (n := 48) (by decide +kernel) (by decide) rfl
theorem o164_20 : OKp l S b Lx xs dC dI cA 164 20 (s_bin g_isub) := ok_isub (by decide +kernel) rfl
theorem o164_21 : OKp l S b Lx xs dC dI cA 164 21 (s_iast) := ok_iast (by decide +kernel) rfl
theorem o164_22 : OKp l S b Lx xs dC dI cA 164 22 (s_aload 0) := ok_aload_n (k9 := 0) (by decide +kernel) rfl rfl
theorem o164_23 : OKp l S b Lx xs dC dI cA 164 23 (s_dup) := ok_dup (by decide +kernel) rfl
theorem o164_24 : OKp l S b Lx xs dC dI cA 164 24 (s_getI (fun t => t == 12) 12) := ok_getI (by decide +kernel) rfl fd_RX12_118
theorem o164_25 : OKp l S b Lx xs dC dI cA 164 25 (s_const (1)) := ok_iconst (n := 1) (by decide +kernel) (by decide) rfl
theorem o164_26 : OKp l S b Lx xs dC dI cA 164 26 (s_bin g_iadd) := ok_iadd (by decide +kernel) rfl
theorem o164_27 : OKp l S b Lx xs dC dI cA 164 27 (s_putI 12 12) := ok_putI (by decide +kernel) rfl fp_RX12_118 rfl
theorem o164_28 : OKp l S b Lx xs dC dI cA 164 28 (s_iinc 2 (1)) := ok_iinc (n := 1) (by decide +kernel) (by decide) rfl
theorem o164_29 : OKp l S b Lx xs dC dI cA 164 29 (s_goto 2) := ok_goto (off := -50) (by decide +kernel) (by decide +kernel)
theorem o164_30 : OKp l S b Lx xs dC dI cA 164 30 (s_const (1)) := ok_iconst (n := 1) (by decide +kernel) (by decide) rfl
theorem o164_31 : OKp l S b Lx xs dC dI cA 164 31 (s_zret) := ok_zret (by decide +kernel) rfl
theorem a164 (hl9 : l.stackTraces = false) : sm_all (OKp l S b Lx xs dC dI cA 164) 0 sc_164 := ⟨o164_0, o164_1, o164_2, o164_3, o164_4, o164_5, o164_6, o164_7, o164_8, o164_9, o164_10, o164_11, o164_12, o164_13, o164_14, o164_15, o164_16, o164_17, o164_18, o164_19, o164_20, o164_21, o164_22, o164_23, o164_24, o164_25, o164_26, o164_27, o164_28, o164_29, o164_30, o164_31, trivial⟩
theorem o165_0 : OKp l S b Lx xs dC dI cA 165 0 (s_aload 0) := ok_aload_n (k9 := 0) (by decide +kernel) rfl rfl
theorem o165_1 : OKp l S b Lx xs dC dI cA 165 1 (s_invV (dv1 12 163 1) [] 0) := ok_invV (dv1_ok vc_RX12_127_12 rfl (by decide) (hXX 163 (by decide))) (by decide +kernel) rfl
theorem o165_2 : OKp l S b Lx xs dC dI cA 165 2 (s_istore 1) := ok_istore_n (k9 := 1) (by decide +kernel) rfl rfl
theorem o165_3 : OKp l S b Lx xs dC dI cA 165 3 (s_iload 1) := ok_iload_n (k9 := 1) (by decide +kernel) rfl rfl
theorem o165_4 : OKp l S b Lx xs dC dI cA 165 4 (s_const (98)) := ok_bipush (n := 98) (by decide +kernel) (by decide) rfl
theorem o165_5 : OKp l S b Lx xs dC dI cA 165 5 (s_icmp (fun x y => x ≠ y) 8) := ok_icmp_ne (off := 7) (by decide +kernel) (by decide +kernel) rfl
theorem o165_6 : OKp l S b Lx xs dC dI cA 165 6 (s_const (1)) := ok_iconst (n := 1) (by decide +kernel) (by decide) rfl
theorem o165_7 : OKp l S b Lx xs dC dI cA 165 7 (s_goto 25) := ok_goto (off := 36) (by decide +kernel) (by decide +kernel)
theorem o165_8 : OKp l S b Lx xs dC dI cA 165 8 (s_iload 1) := ok_iload_n (k9 := 1) (by decide +kernel) rfl rfl
theorem o165_9 : OKp l S b Lx xs dC dI cA 165 9 (s_const (110)) := ok_bipush (n := 110) (by decide +kernel) (by decide) rfl
theorem o165_10 : OKp l S b Lx xs dC dI cA 165 10 (s_icmp (fun x y => x ≠ y) 13) := ok_icmp_ne (off := 7) (by decide +kernel) (by decide +kernel) rfl
theorem o165_11 : OKp l S b Lx xs dC dI cA 165 11 (s_const (3)) := ok_iconst (n := 3) (by decide +kernel) (by decide) rfl
theorem o165_12 : OKp l S b Lx xs dC dI cA 165 12 (s_goto 25) := ok_goto (off := 26) (by decide +kernel) (by decide +kernel)
theorem o165_13 : OKp l S b Lx xs dC dI cA 165 13 (s_iload 1) := ok_iload_n (k9 := 1) (by decide +kernel) rfl rfl
theorem o165_14 : OKp l S b Lx xs dC dI cA 165 14 (s_const (114)) := ok_bipush (n := 114) (by decide +kernel) (by decide) rfl
theorem o165_15 : OKp l S b Lx xs dC dI cA 165 15 (s_icmp (fun x y => x = y) 22) := ok_icmp_eq (off := 15) (by decide +kernel) (by decide +kernel) rfl
theorem o165_16 : OKp l S b Lx xs dC dI cA 165 16 (s_iload 1) := ok_iload_n (k9 := 1) (by decide +kernel) rfl rfl
theorem o165_17 : OKp l S b Lx xs dC dI cA 165 17 (s_const (111)) := ok_bipush (n := 111) (by decide +kernel) (by decide) rfl
theorem o165_18 : OKp l S b Lx xs dC dI cA 165 18 (s_icmp (fun x y => x = y) 22) := ok_icmp_eq (off := 9) (by decide +kernel) (by decide +kernel) rfl
theorem o165_19 : OKp l S b Lx xs dC dI cA 165 19 (s_iload 1) := ok_iload_n (k9 := 1) (by decide +kernel) rfl rfl
theorem o165_20 : OKp l S b Lx xs dC dI cA 165 20 (s_const (120)) := ok_bipush (n := 120) (by decide +kernel) (by decide) rfl
theorem o165_21 : OKp l S b Lx xs dC dI cA 165 21 (s_icmp (fun x y => x ≠ y) 24) := ok_icmp_ne (off := 7) (by decide +kernel) (by decide +kernel) rfl
theorem o165_22 : OKp l S b Lx xs dC dI cA 165 22 (s_const (2)) := ok_iconst (n := 2) (by decide +kernel) (by decide) rfl
theorem o165_23 : OKp l S b Lx xs dC dI cA 165 23 (s_goto 25) := ok_goto (off := 4) (by decide +kernel) (by decide +kernel)
theorem o165_24 : OKp l S b Lx xs dC dI cA 165 24 (s_const (0)) := ok_iconst (n := 0) (by decide +kernel) (by decide) rfl
theorem o165_25 : OKp l S b Lx xs dC dI cA 165 25 (s_istore 2) := ok_istore_n (k9 := 2) (by decide +kernel) rfl rfl
theorem o165_26 : OKp l S b Lx xs dC dI cA 165 26 (s_iload 2) := ok_iload_n (k9 := 2) (by decide +kernel) rfl rfl
theorem o165_27 : OKp l S b Lx xs dC dI cA 165 27 (s_if (fun x => x ≠ 0) 30) := ok_if_ne (off := 5) (by decide +kernel) (by decide +kernel) rfl
theorem o165_28 : OKp l S b Lx xs dC dI cA 165 28 (s_const (0)) := ok_iconst (n := 0) (by decide +kernel) (by decide) rfl
theorem o165_29 : OKp l S b Lx xs dC dI cA 165 29 (s_zret) := ok_zret (by decide +kernel) rfl
theorem o165_30 : OKp l S b Lx xs dC dI cA 165 30 (s_aload 0) := ok_aload_n (k9 := 0) (by decide +kernel) rfl rfl
theorem o165_31 : OKp l S b Lx xs dC dI cA 165 31 (s_dup) := ok_dup (by decide +kernel) rfl
theorem o165_32 : OKp l S b Lx xs dC dI cA 165 32 (s_getI (fun t => t == 12) 12) := ok_getI (by decide +kernel) rfl fd_RX12_118
theorem o165_33 : OKp l S b Lx xs dC dI cA 165 33 (s_const (1)) := ok_iconst (n := 1) (by decide +kernel) (by decide) rfl
theorem o165_34 : OKp l S b Lx xs dC dI cA 165 34 (s_bin g_iadd) := ok_iadd (by decide +kernel) rfl
theorem o165_35 : OKp l S b Lx xs dC dI cA 165 35 (s_putI 12 12) := ok_putI (by decide +kernel) rfl fp_RX12_118 rfl
theorem o165_36 : OKp l S b Lx xs dC dI cA 165 36 (s_aload 0) := ok_aload_n (k9 := 0) (by decide +kernel) rfl rfl
theorem o165_37 : OKp l S b Lx xs dC dI cA 165 37 (s_iload 2) := ok_iload_n (k9 := 2) (by decide +kernel) rfl rfl
theorem o165_38 : OKp l S b Lx xs dC dI cA 165 38 (s_invV (dv1 12 164 3) [] 1) := ok_invV (dv1_ok vc_RX12_135_12 rfl (by decide) (hXX 164 (by decide))) (by decide +kernel) rfl
theorem o165_39 : OKp l S b Lx xs dC dI cA 165 39 (s_if (fun x => x = 0) 44) := ok_if_eq (off := 12) (by decide +kernel) (by decide +kernel) rfl
theorem o165_40 : OKp l S b Lx xs dC dI cA 165 40 (s_aload 0) := ok_aload_n (k9 := 0) (by decide +kernel) rfl rfl
theorem o165_41 : OKp l S b Lx xs dC dI cA 165 41 (s_invV (dv1 12 163 1) [] 0) := ok_invV (dv1_ok vc_RX12_127_12 rfl (by decide) (hXX 163 (by decide))) (by decide +kernel) rfl
theorem o165_42 : OKp l S b Lx xs dC dI cA 165 42 (s_const (59)) := ok_bipush (n := 59) (by decide +kernel) (by decide) rfl
theorem o165_43 : OKp l S b Lx xs dC dI cA 165 43 (s_icmp (fun x y => x = y) 46) := ok_icmp_eq (off := 5) (by decide +kernel) (by decide +kernel) rfl
theorem o165_44 : OKp l S b Lx xs dC dI cA 165 44 (s_const (0)) := ok_iconst (n := 0) (by decide +kernel) (by decide) rfl
theorem o165_45 : OKp l S b Lx xs dC dI cA 165 45 (s_zret) := ok_zret (by decide +kernel) rfl
theorem o165_46 : OKp l S b Lx xs dC dI cA 165 46 (s_aload 0) := ok_aload_n (k9 := 0) (by decide +kernel) rfl rfl
theorem o165_47 : OKp l S b Lx xs dC dI cA 165 47 (s_dup) := ok_dup (by decide +kernel) rfl
theorem o165_48 : OKp l S b Lx xs dC dI cA 165 48 (s_getI (fun t => t == 12) 12) := ok_getI (by decide +kernel) rfl fd_RX12_118
theorem o165_49 : OKp l S b Lx xs dC dI cA 165 49 (s_const (1)) := ok_iconst (n := 1) (by decide +kernel) (by decide) rfl
theorem o165_50 : OKp l S b Lx xs dC dI cA 165 50 (s_bin g_iadd) := ok_iadd (by decide +kernel) rfl
theorem o165_51 : OKp l S b Lx xs dC dI cA 165 51 (s_putI 12 12) := ok_putI (by decide +kernel) rfl fp_RX12_118 rfl
theorem o165_52 : OKp l S b Lx xs dC dI cA 165 52 (s_const (1)) := ok_iconst (n := 1) (by decide +kernel) (by decide) rfl
theorem o165_53 : OKp l S b Lx xs dC dI cA 165 53 (s_zret) := ok_zret (by decide +kernel) rfl
theorem a165 (hl9 : l.stackTraces = false) : sm_all (OKp l S b Lx xs dC dI cA 165) 0 sc_165 := ⟨o165_0, o165_1, o165_2, o165_3, o165_4, o165_5, o165_6, o165_7, o165_8, o165_9, o165_10, o165_11, o165_12, o165_13, o165_14, o165_15, o165_16, o165_17, o165_18, o165_19, o165_20, o165_21, o165_22, o165_23, o165_24, o165_25, o165_26, o165_27, o165_28, o165_29, o165_30, o165_31, o165_32, o165_33, o165_34, o165_35, o165_36, o165_37, o165_38, o165_39, o165_40, o165_41, o165_42, o165_43, o165_44, o165_45, o165_46, o165_47, o165_48, o165_49, o165_50, o165_51, o165_52, o165_53, trivial⟩
theorem o166_0 : OKp l S b Lx xs dC dI cA 166 0 (s_aload 0) := ok_aload_n (k9 := 0) (by decide +kernel) rfl rfl
theorem o166_1 : OKp l S b Lx xs dC dI cA 166 1 (s_getR (fun t => t == 12) 0) := ok_getR (by decide +kernel) rfl fd_RX12_9
theorem o166_2 : OKp l S b Lx xs dC dI cA 166 2 (s_const (1)) := ok_iconst (n := 1) (by decide +kernel) (by decide) rfl
theorem o166_3 : OKp l S b Lx xs dC dI cA 166 3 (s_iald) := ok_iald (by decide +kernel) rfl
theorem o166_4 : OKp l S b Lx xs dC dI cA 166 4 (s_const (6)) := ok_bipush (n := 6) (by decide +kernel) (by decide) rfl
theorem o166_5 : OKp l S b Lx xs dC dI cA 166 5 (s_icmp (fun x y => x ≠ y) 8) := ok_icmp_ne (off := 5) (by decide +kernel) (by decide +kernel) rfl
theorem o166_6 : OKp l S b Lx xs dC dI cA 166 6 (s_const (0)) := ok_iconst (n := 0) (by decide +kernel) (by decide) rfl
theorem o166_7 : OKp l S b Lx xs dC dI cA 166 7 (s_zret) := ok_zret (by decide +kernel) rfl
theorem o166_8 : OKp l S b Lx xs dC dI cA 166 8 (s_aload 0) := ok_aload_n (k9 := 0) (by decide +kernel) rfl rfl
theorem o166_9 : OKp l S b Lx xs dC dI cA 166 9 (s_getR (fun t => t == 12) 0) := ok_getR (by decide +kernel) rfl fd_RX12_9
theorem o166_10 : OKp l S b Lx xs dC dI cA 166 10 (s_const (75)) := ok_bipush (n := 75) (by decide +kernel) (by decide) rfl
theorem o166_11 : OKp l S b Lx xs dC dI cA 166 11 (s_const (2)) := ok_iconst (n := 2) (by decide +kernel) (by decide) rfl
theorem o166_12 : OKp l S b Lx xs dC dI cA 166 12 (s_aload 0) := ok_aload_n (k9 := 0) (by decide +kernel) rfl rfl
theorem o166_13 : OKp l S b Lx xs dC dI cA 166 13 (s_getR (fun t => t == 12) 0) := ok_getR (by decide +kernel) rfl fd_RX12_9
theorem o166_14 : OKp l S b Lx xs dC dI cA 166 14 (s_const (1)) := ok_iconst (n := 1) (by decide +kernel) (by decide) rfl
theorem o166_15 : OKp l S b Lx xs dC dI cA 166 15 (s_iald) := ok_iald (by decide +kernel) rfl
theorem o166_16 : OKp l S b Lx xs dC dI cA 166 16 (s_bin g_imul) := ok_imul (by decide +kernel) rfl
theorem o166_17 : OKp l S b Lx xs dC dI cA 166 17 (s_bin g_iadd) := ok_iadd (by decide +kernel) rfl
theorem o166_18 : OKp l S b Lx xs dC dI cA 166 18 (s_iload 1) := ok_iload_n (k9 := 1) (by decide +kernel) rfl rfl
theorem o166_19 : OKp l S b Lx xs dC dI cA 166 19 (s_iast) := ok_iast (by decide +kernel) rfl
theorem o166_20 : OKp l S b Lx xs dC dI cA 166 20 (s_aload 0) := ok_aload_n (k9 := 0) (by decide +kernel) rfl rfl
theorem o166_21 : OKp l S b Lx xs dC dI cA 166 21 (s_getR (fun t => t == 12) 0) := ok_getR (by decide +kernel) rfl fd_RX12_9
theorem o166_22 : OKp l S b Lx xs dC dI cA 166 22 (s_const (75)) := ok_bipush (n := 75) (by decide +kernel) (by decide) rfl
theorem o166_23 : OKp l S b Lx xs dC dI cA 166 23 (s_const (2)) := ok_iconst (n := 2) (by decide +kernel) (by decide) rfl
theorem o166_24 : OKp l S b Lx xs dC dI cA 166 24 (s_aload 0) := ok_aload_n (k9 := 0) (by decide +kernel) rfl rfl
theorem o166_25 : OKp l S b Lx xs dC dI cA 166 25 (s_getR (fun t => t == 12) 0) := ok_getR (by decide +kernel) rfl fd_RX12_9
theorem o166_26 : OKp l S b Lx xs dC dI cA 166 26 (s_const (1)) := ok_iconst (n := 1) (by decide +kernel) (by decide) rfl
theorem o166_27 : OKp l S b Lx xs dC dI cA 166 27 (s_iald) := ok_iald (by decide +kernel) rfl
theorem o166_28 : OKp l S b Lx xs dC dI cA 166 28 (s_bin g_imul) := ok_imul (by decide +kernel) rfl
theorem o166_29 : OKp l S b Lx xs dC dI cA 166 29 (s_bin g_iadd) := ok_iadd (by decide +kernel) rfl
theorem o166_30 : OKp l S b Lx xs dC dI cA 166 30 (s_const (1)) := ok_iconst (n := 1) (by decide +kernel) (by decide) rfl
theorem o166_31 : OKp l S b Lx xs dC dI cA 166 31 (s_bin g_iadd) := ok_iadd (by decide +kernel) rfl
theorem o166_32 : OKp l S b Lx xs dC dI cA 166 32 (s_iload 2) := ok_iload_n (k9 := 2) (by decide +kernel) rfl rfl
theorem o166_33 : OKp l S b Lx xs dC dI cA 166 33 (s_iast) := ok_iast (by decide +kernel) rfl
theorem o166_34 : OKp l S b Lx xs dC dI cA 166 34 (s_aload 0) := ok_aload_n (k9 := 0) (by decide +kernel) rfl rfl
theorem o166_35 : OKp l S b Lx xs dC dI cA 166 35 (s_getR (fun t => t == 12) 0) := ok_getR (by decide +kernel) rfl fd_RX12_9
theorem o166_36 : OKp l S b Lx xs dC dI cA 166 36 (s_const (1)) := ok_iconst (n := 1) (by decide +kernel) (by decide) rfl
theorem o166_37 : OKp l S b Lx xs dC dI cA 166 37 (s_dup2) := ok_dup2 (by decide +kernel) rfl
theorem o166_38 : OKp l S b Lx xs dC dI cA 166 38 (s_iald) := ok_iald (by decide +kernel) rfl
theorem o166_39 : OKp l S b Lx xs dC dI cA 166 39 (s_const (1)) := ok_iconst (n := 1) (by decide +kernel) (by decide) rfl
theorem o166_40 : OKp l S b Lx xs dC dI cA 166 40 (s_bin g_iadd) := ok_iadd (by decide +kernel) rfl
theorem o166_41 : OKp l S b Lx xs dC dI cA 166 41 (s_iast) := ok_iast (by decide +kernel) rfl
theorem o166_42 : OKp l S b Lx xs dC dI cA 166 42 (s_const (1)) := ok_iconst (n := 1) (by decide +kernel) (by decide) rfl
theorem o166_43 : OKp l S b Lx xs dC dI cA 166 43 (s_zret) := ok_zret (by decide +kernel) rfl
theorem a166 (hl9 : l.stackTraces = false) : sm_all (OKp l S b Lx xs dC dI cA 166) 0 sc_166 := ⟨o166_0, o166_1, o166_2, o166_3, o166_4, o166_5, o166_6, o166_7, o166_8, o166_9, o166_10, o166_11, o166_12, o166_13, o166_14, o166_15, o166_16, o166_17, o166_18, o166_19, o166_20, o166_21, o166_22, o166_23, o166_24, o166_25, o166_26, o166_27, o166_28, o166_29, o166_30, o166_31, o166_32, o166_33, o166_34, o166_35, o166_36, o166_37, o166_38, o166_39, o166_40, o166_41, o166_42, o166_43, trivial⟩
theorem o167_0 : OKp l S b Lx xs dC dI cA 167 0 (s_aload 0) := ok_aload_n (k9 := 0) (by decide +kernel) rfl rfl
theorem o167_1 : OKp l S b Lx xs dC dI cA 167 1 (s_getR (fun t => t == 12) 15) := ok_getR (by decide +kernel) rfl fd_RX12_40
theorem o167_2 : OKp l S b Lx xs dC dI cA 167 2 (s_const (0)) := ok_iconst (n := 0) (by decide +kernel) (by decide) rfl
theorem o167_3 : OKp l S b Lx xs dC dI cA 167 3 (s_iald) := ok_iald (by decide +kernel) rfl
theorem o167_4 : OKp l S b Lx xs dC dI cA 167 4 (s_istore 2) := ok_istore_n (k9 := 2) (by decide +kernel) rfl rfl
theorem o167_5 : OKp l S b Lx xs dC dI cA 167 5 (s_aload 0) := ok_aload_n (k9 := 0) (by decide +kernel) rfl rfl
theorem o167_6 : OKp l S b Lx xs dC dI cA 167 6 (s_getR (fun t => t == 12) 15) := ok_getR (by decide +kernel) rfl fd_RX12_40
theorem o167_7 : OKp l S b Lx xs dC dI cA 167 7 (s_const (1)) := ok_iconst (n := 1) (by decide +kernel) (by decide) rfl
theorem o167_8 : OKp l S b Lx xs dC dI cA 167 8 (s_iald) := ok_iald (by decide +kernel) rfl
theorem o167_9 : OKp l S b Lx xs dC dI cA 167 9 (s_istore 3) := ok_istore_n (k9 := 3) (by decide +kernel) rfl rfl
theorem o167_10 : OKp l S b Lx xs dC dI cA 167 10 (s_iload 1) := ok_iload_n (k9 := 1) (by decide +kernel) rfl rfl
theorem o167_11 : OKp l S b Lx xs dC dI cA 167 11 (s_sw [(98, 12), (110, 77), (111, 120), (114, 108)] 139) := ok_lookup (dflt := 236) (ps := #[(98, 41), (110, 141), (111, 206), (114, 185)]) (len := 41) (by decide +kernel) (by decide +kernel) (by decide +kernel) (by decide +kernel)
theorem o167_12 : OKp l S b Lx xs dC dI cA 167 12 (s_iload 2) := ok_iload_n (k9 := 2) (by decide +kernel) rfl rfl
theorem o167_13 : OKp l S b Lx xs dC dI cA 167 13 (s_const (1)) := ok_iconst (n := 1) (by decide +kernel) (by decide) rfl
theorem o167_14 : OKp l S b Lx xs dC dI cA 167 14 (s_icmp (fun x y => x < y) 24) := ok_icmp_lt (off := 19) (by decide +kernel) (by decide +kernel) rfl
theorem o167_15 : OKp l S b Lx xs dC dI cA 167 15 (s_iload 2) := ok_iload_n (k9 := 2) (by decide +kernel) rfl rfl
theorem o167_16 : OKp l S b Lx xs dC dI cA 167 16 (s_const (8)) := ok_bipush (n := 8) (by decide +kernel) (by decide) rfl
theorem o167_17 : OKp l S b Lx xs dC dI cA 167 17 (s_icmp (fun x y => y < x) 24) := ok_icmp_gt (off := 13) (by decide +kernel) (by decide +kernel) rfl
theorem o167_18 : OKp l S b Lx xs dC dI cA 167 18 (s_aload 0) := ok_aload_n (k9 := 0) (by decide +kernel) rfl rfl
theorem o167_19 : OKp l S b Lx xs dC dI cA 167 19 (s_getR (fun t => t == 12) 0) := ok_getR (by decide +kernel) rfl fd_RX12_9
theorem o167_20 : OKp l S b Lx xs dC dI cA 167 20 (s_const (0)) := ok_iconst (n := 0) (by decide +kernel) (by decide) rfl
theorem o167_21 : OKp l S b Lx xs dC dI cA 167 21 (s_iald) := ok_iald (by decide +kernel) rfl
theorem o167_22 : OKp l S b Lx xs dC dI cA 167 22 (s_const (4)) := ok_iconst (n := 4) (by decide +kernel) (by decide) rfl
theorem o167_23 : OKp l S b Lx xs dC dI cA 167 23 (s_icmp (fun x y => x ≠ y) 26) := ok_icmp_ne (off := 5) (by decide +kernel) (by decide +kernel) rfl
theorem o167_24 : OKp l S b Lx xs dC dI cA 167 24 (s_const (0)) := ok_iconst (n := 0) (by decide +kernel) (by decide) rfl
theorem o167_25 : OKp l S b Lx xs dC dI cA 167 25 (s_zret) := ok_zret (by decide +kernel) rfl
theorem o167_26 : OKp l S b Lx xs dC dI cA 167 26 (s_const (3)) := ok_iconst (n := 3) (by decide +kernel) (by decide) rfl
theorem o167_27 : OKp l S b Lx xs dC dI cA 167 27 (s_const (18)) := ok_bipush (n := 18) (by decide +kernel) (by decide) rfl
theorem o167_28 : OKp l S b Lx xs dC dI cA 167 28 (s_aload 0) := ok_aload_n (k9 := 0) (by decide +kernel) rfl rfl
theorem o167_29 : OKp l S b Lx xs dC dI cA 167 29 (s_getR (fun t => t == 12) 0) := ok_getR (by decide +kernel) rfl fd_RX12_9
theorem o167_30 : OKp l S b Lx xs dC dI cA 167 30 (s_const (0)) := ok_iconst (n := 0) (by decide +kernel) (by decide) rfl
theorem o167_31 : OKp l S b Lx xs dC dI cA 167 31 (s_iald) := ok_iald (by decide +kernel) rfl
theorem o167_32 : OKp l S b Lx xs dC dI cA 167 32 (s_bin g_imul) := ok_imul (by decide +kernel) rfl
theorem o167_33 : OKp l S b Lx xs dC dI cA 167 33 (s_bin g_iadd) := ok_iadd (by decide +kernel) rfl
theorem o167_34 : OKp l S b Lx xs dC dI cA 167 34 (s_istore 4) := ok_istore (by decide +kernel) rfl
theorem o167_35 : OKp l S b Lx xs dC dI cA 167 35 (s_aload 0) := ok_aload_n (k9 := 0) (by decide +kernel) rfl rfl
theorem o167_36 : OKp l S b Lx xs dC dI cA 167 36 (s_getR (fun t => t == 12) 0) := ok_getR (by decide +kernel) rfl fd_RX12_9
theorem o167_37 : OKp l S b Lx xs dC dI cA 167 37 (s_iload 4) := ok_iload (by decide +kernel) rfl
theorem o167_38 : OKp l S b Lx xs dC dI cA 167 38 (s_iload 2) := ok_iload_n (k9 := 2) (by decide +kernel) rfl rfl
theorem o167_39 : OKp l S b Lx xs dC dI cA 167 39 (s_iast) := ok_iast (by decide +kernel) rfl
theorem o167_40 : OKp l S b Lx xs dC dI cA 167 40 (s_aload 0) := ok_aload_n (k9 := 0) (by decide +kernel) rfl rfl
theorem o167_41 : OKp l S b Lx xs dC dI cA 167 41 (s_getR (fun t => t == 12) 0) := ok_getR (by decide +kernel) rfl fd_RX12_9
theorem o167_42 : OKp l S b Lx xs dC dI cA 167 42 (s_iload 4) := ok_iload (by decide +kernel) rfl
theorem o167_43 : OKp l S b Lx xs dC dI cA 167 43 (s_const (1)) := ok_iconst (n := 1) (by decide +kernel) (by decide) rfl
theorem o167_44 : OKp l S b Lx xs dC dI cA 167 44 (s_bin g_iadd) := ok_iadd (by decide +kernel) rfl
theorem o167_45 : OKp l S b Lx xs dC dI cA 167 45 (s_const (1)) := ok_iconst (n := 1) (by decide +kernel) (by decide) rfl
theorem o167_46 : OKp l S b Lx xs dC dI cA 167 46 (s_iload 2) := ok_iload_n (k9 := 2) (by decide +kernel) rfl rfl
theorem o167_47 : OKp l S b Lx xs dC dI cA 167 47 (s_bin g_ishl) := ok_ishl (by decide +kernel) rfl
theorem o167_48 : OKp l S b Lx xs dC dI cA 167 48 (s_const (1)) := ok_iconst (n := 1) (by decide +kernel) (by decide) rfl
theorem o167_49 : OKp l S b Lx xs dC dI cA 167 49 (s_bin g_isub) := ok_isub (by decide +kernel) rfl
theorem o167_50 : OKp l S b Lx xs dC dI cA 167 50 (s_iast) := ok_iast (by decide +kernel) rfl
theorem o167_51 : OKp l S b Lx xs dC dI cA 167 51 (s_const (0)) := ok_iconst (n := 0) (by decide +kernel) (by decide) rfl
theorem o167_52 : OKp l S b Lx xs dC dI cA 167 52 (s_istore 5) := ok_istore (by decide +kernel) rfl
theorem o167_53 : OKp l S b Lx xs dC dI cA 167 53 (s_iload 5) := ok_iload (by decide +kernel) rfl
theorem o167_54 : OKp l S b Lx xs dC dI cA 167 54 (s_const (16)) := ok_bipush (n := 16) (by decide +kernel) (by decide) rfl
theorem o167_55 : OKp l S b Lx xs dC dI cA 167 55 (s_icmp (fun x y => y ≤ x) 67) := ok_icmp_ge (off := 23) (by decide +kernel) (by decide +kernel) rfl
theorem o167_56 : OKp l S b Lx xs dC dI cA 167 56 (s_aload 0) := ok_aload_n (k9 := 0) (by decide +kernel) rfl rfl
theorem o167_57 : OKp l S b Lx xs dC dI cA 167 57 (s_getR (fun t => t == 12) 0) := ok_getR (by decide +kernel) rfl fd_RX12_9
theorem o167_58 : OKp l S b Lx xs dC dI cA 167 58 (s_iload 4) := ok_iload (by decide +kernel) rfl
theorem o167_59 : OKp l S b Lx xs dC dI cA 167 59 (s_const (2)) := ok_iconst (n := 2) (by decide +kernel) (by decide) rfl
theorem o167_60 : OKp l S b Lx xs dC dI cA 167 60 (s_bin g_iadd) := ok_iadd (by decide +kernel) rfl
theorem o167_61 : OKp l S b Lx xs dC dI cA 167 61 (s_iload 5) := ok_iload (by decide +kernel) rfl
theorem o167_62 : OKp l S b Lx xs dC dI cA 167 62 (s_bin g_iadd) := ok_iadd (by decide +kernel) rfl
theorem o167_63 : OKp l S b Lx xs dC dI cA 167 63 (s_const (-4)) := ok_bipush (n := -4) (by decide +kernel) (by decide) rfl
theorem o167_64 : OKp l S b Lx xs dC dI cA 167 64 (s_iast) := ok_iast (by decide +kernel) rfl
theorem o167_65 : OKp l S b Lx xs dC dI cA 167 65 (s_iinc 5 (1)) := ok_iinc (n := 1) (by decide +kernel) (by decide) rfl
theorem o167_66 : OKp l S b Lx xs dC dI cA 167 66 (s_goto 53) := ok_goto (off := -24) (by decide +kernel) (by decide +kernel)
theorem o167_67 : OKp l S b Lx xs dC dI cA 167 67 (s_aload 0) := ok_aload_n (k9 := 0) (by decide +kernel) rfl rfl
theorem o167_68 : OKp l S b Lx xs dC dI cA 167 68 (s_getR (fun t => t == 12) 0) := ok_getR (by decide +kernel) rfl fd_RX12_9
theorem o167_69 : OKp l S b Lx xs dC dI cA 167 69 (s_const (0)) := ok_iconst (n := 0) (by decide +kernel) (by decide) rfl
theorem o167_70 : OKp l S b Lx xs dC dI cA 167 70 (s_dup2) := ok_dup2 (by decide +kernel) rfl
theorem o167_71 : OKp l S b Lx xs dC dI cA 167 71 (s_iald) := ok_iald (by decide +kernel) rfl
theorem o167_72 : OKp l S b Lx xs dC dI cA 167 72 (s_const (1)) := ok_iconst (n := 1) (by decide +kernel) (by decide) rfl
theorem o167_73 : OKp l S b Lx xs dC dI cA 167 73 (s_bin g_iadd) := ok_iadd (by decide +kernel) rfl
theorem o167_74 : OKp l S b Lx xs dC dI cA 167 74 (s_iast) := ok_iast (by decide +kernel) rfl
theorem o167_75 : OKp l S b Lx xs dC dI cA 167 75 (s_const (1)) := ok_iconst (n := 1) (by decide +kernel) (by decide) rfl
theorem o167_76 : OKp l S b Lx xs dC dI cA 167 76 (s_zret) := ok_zret (by decide +kernel) rfl
theorem o167_77 : OKp l S b Lx xs dC dI cA 167 77 (s_aload 0) := ok_aload_n (k9 := 0) (by decide +kernel) rfl rfl
theorem o167_78 : OKp l S b Lx xs dC dI cA 167 78 (s_iload 2) := ok_iload_n (k9 := 2) (by decide +kernel) rfl rfl
theorem o167_79 : OKp l S b Lx xs dC dI cA 167 79 (s_iload 3) := ok_iload_n (k9 := 3) (by decide +kernel) rfl rfl
theorem o167_80 : OKp l S b Lx xs dC dI cA 167 80 (s_invV (dv1 12 148 3) [] 2) := ok_invV (dv1_ok vc_RX12_138_12 rfl (by decide) (hXX 148 (by decide))) (by decide +kernel) rfl
theorem o167_81 : OKp l S b Lx xs dC dI cA 167 81 (s_if (fun x => x = 0) 88) := ok_if_eq (off := 13) (by decide +kernel) (by decide +kernel) rfl
theorem o167_82 : OKp l S b Lx xs dC dI cA 167 82 (s_aload 0) := ok_aload_n (k9 := 0) (by decide +kernel) rfl rfl
theorem o167_83 : OKp l S b Lx xs dC dI cA 167 83 (s_getR (fun t => t == 12) 15) := ok_getR (by decide +kernel) rfl fd_RX12_40
theorem o167_84 : OKp l S b Lx xs dC dI cA 167 84 (s_const (2)) := ok_iconst (n := 2) (by decide +kernel) (by decide) rfl
theorem o167_85 : OKp l S b Lx xs dC dI cA 167 85 (s_iald) := ok_iald (by decide +kernel) rfl
theorem o167_86 : OKp l S b Lx xs dC dI cA 167 86 (s_iload 3) := ok_iload_n (k9 := 3) (by decide +kernel) rfl rfl
theorem o167_87 : OKp l S b Lx xs dC dI cA 167 87 (s_icmp (fun x y => x < y) 90) := ok_icmp_lt (off := 5) (by decide +kernel) (by decide +kernel) rfl
theorem o167_88 : OKp l S b Lx xs dC dI cA 167 88 (s_const (0)) := ok_iconst (n := 0) (by decide +kernel) (by decide) rfl
theorem o167_89 : OKp l S b Lx xs dC dI cA 167 89 (s_zret) := ok_zret (by decide +kernel) rfl
theorem o167_90 : OKp l S b Lx xs dC dI cA 167 90 (s_aload 0) := ok_aload_n (k9 := 0) (by decide +kernel) rfl rfl
theorem o167_91 : OKp l S b Lx xs dC dI cA 167 91 (s_getR (fun t => t == 12) 0) := ok_getR (by decide +kernel) rfl fd_RX12_9
theorem o167_92 : OKp l S b Lx xs dC dI cA 167 92 (s_const (3)) := ok_iconst (n := 3) (by decide +kernel) (by decide) rfl
theorem o167_93 : OKp l S b Lx xs dC dI cA 167 93 (s_const (18)) := ok_bipush (n := 18) (by decide +kernel) (by decide) rfl
theorem o167_94 : OKp l S b Lx xs dC dI cA 167 94 (s_iload 2) := ok_iload_n (k9 := 2) (by decide +kernel) rfl rfl
theorem o167_95 : OKp l S b Lx xs dC dI cA 167 95 (s_bin g_imul) := ok_imul (by decide +kernel) rfl
theorem o167_96 : OKp l S b Lx xs dC dI cA 167 96 (s_bin g_iadd) := ok_iadd (by decide +kernel) rfl
theorem o167_97 : OKp l S b Lx xs dC dI cA 167 97 (s_const (2)) := ok_iconst (n := 2) (by decide +kernel) (by decide) rfl
theorem o167_98 : OKp l S b Lx xs dC dI cA 167 98 (s_bin g_iadd) := ok_iadd (by decide +kernel) rfl
theorem o167_99 : OKp l S b Lx xs dC dI cA 167 99 (s_iload 3) := ok_iload_n (k9 := 3) (by decide +kernel) rfl rfl
theorem o167_100 : OKp l S b Lx xs dC dI cA 167 100 (s_bin g_iadd) := ok_iadd (by decide +kernel) rfl
theorem o167_101 : OKp l S b Lx xs dC dI cA 167 101 (s_aload 0) := ok_aload_n (k9 := 0) (by decide +kernel) rfl rfl
theorem o167_102 : OKp l S b Lx xs dC dI cA 167 102 (s_getR (fun t => t == 12) 15) := ok_getR (by decide +kernel) rfl fd_RX12_40
theorem o167_103 : OKp l S b Lx xs dC dI cA 167 103 (s_const (2)) := ok_iconst (n := 2) (by decide +kernel) (by decide) rfl
theorem o167_104 : OKp l S b Lx xs dC dI cA 167 104 (s_iald) := ok_iald (by decide +kernel) rfl
theorem o167_105 : OKp l S b Lx xs dC dI cA 167 105 (s_iast) := ok_iast (by decide +kernel) rfl
theorem o167_106 : OKp l S b Lx xs dC dI cA 167 106 (s_const (1)) := ok_iconst (n := 1) (by decide +kernel) (by decide) rfl
theorem o167_107 : OKp l S b Lx xs dC dI cA 167 107 (s_zret) := ok_zret (by decide +kernel) rfl
theorem o167_108 : OKp l S b Lx xs dC dI cA 167 108 (s_iload 2) := ok_iload_n (k9 := 2) (by decide +kernel) rfl rfl
theorem o167_109 : OKp l S b Lx xs dC dI cA 167 109 (s_const (8)) := ok_bipush (n := 8) (by decide +kernel) (by decide) rfl
theorem o167_110 : OKp l S b Lx xs dC dI cA 167 110 (s_icmp (fun x y => y ≤ x) 118) := ok_icmp_ge (off := 16) (by decide +kernel) (by decide +kernel) rfl
theorem o167_111 : OKp l S b Lx xs dC dI cA 167 111 (s_aload 0) := ok_aload_n (k9 := 0) (by decide +kernel) rfl rfl
theorem o167_112 : OKp l S b Lx xs dC dI cA 167 112 (s_iload 2) := ok_iload_n (k9 := 2) (by decide +kernel) rfl rfl
theorem o167_113 : OKp l S b Lx xs dC dI cA 167 113 (s_iload 3) := ok_iload_n (k9 := 3) (by decide +kernel) rfl rfl
theorem o167_114 : OKp l S b Lx xs dC dI cA 167 114 (s_invV (dv1 12 166 3) [] 2) := ok_invV (dv1_ok vc_RX12_141_12 rfl (by decide) (hXX 166 (by decide))) (by decide +kernel) rfl
theorem o167_115 : OKp l S b Lx xs dC dI cA 167 115 (s_if (fun x => x = 0) 118) := ok_if_eq (off := 7) (by decide +kernel) (by decide +kernel) rfl
theorem o167_116 : OKp l S b Lx xs dC dI cA 167 116 (s_const (1)) := ok_iconst (n := 1) (by decide +kernel) (by decide) rfl
theorem o167_117 : OKp l S b Lx xs dC dI cA 167 117 (s_goto 119) := ok_goto (off := 4) (by decide +kernel) (by decide +kernel)
theorem o167_118 : OKp l S b Lx xs dC dI cA 167 118 (s_const (0)) := ok_iconst (n := 0) (by decide +kernel) (by decide) rfl
theorem o167_119 : OKp l S b Lx xs dC dI cA 167 119 (s_zret) := ok_zret (by decide +kernel) rfl
theorem o167_120 : OKp l S b Lx xs dC dI cA 167 120 (s_aload 0) := ok_aload_n (k9 := 0) (by decide +kernel) rfl rfl
theorem o167_121 : OKp l S b Lx xs dC dI cA 167 121 (s_iload 2) := ok_iload_n (k9 := 2) (by decide +kernel) rfl rfl
theorem o167_122 : OKp l S b Lx xs dC dI cA 167 122 (s_iload 3) := ok_iload_n (k9 := 3) (by decide +kernel) rfl rfl
theorem o167_123 : OKp l S b Lx xs dC dI cA 167 123 (s_invV (dv1 12 148 3) [] 2) := ok_invV (dv1_ok vc_RX12_138_12 rfl (by decide) (hXX 148 (by decide))) (by decide +kernel) rfl
theorem o167_124 : OKp l S b Lx xs dC dI cA 167 124 (s_if (fun x => x = 0) 130) := ok_if_eq (off := 12) (by decide +kernel) (by decide +kernel) rfl
theorem o167_125 : OKp l S b Lx xs dC dI cA 167 125 (s_aload 0) := ok_aload_n (k9 := 0) (by decide +kernel) rfl rfl
theorem o167_126 : OKp l S b Lx xs dC dI cA 167 126 (s_iload 2) := ok_iload_n (k9 := 2) (by decide +kernel) rfl rfl
theorem o167_127 : OKp l S b Lx xs dC dI cA 167 127 (s_iload 3) := ok_iload_n (k9 := 3) (by decide +kernel) rfl rfl
theorem o167_128 : OKp l S b Lx xs dC dI cA 167 128 (s_invV (dv1 12 149 3) [] 2) := ok_invV (dv1_ok vc_RX12_90_12 rfl (by decide) (hXX 149 (by decide))) (by decide +kernel) rfl
theorem o167_129 : OKp l S b Lx xs dC dI cA 167 129 (s_if (fun x => x ≠ 0) 132) := ok_if_ne (off := 5) (by decide +kernel) (by decide +kernel) rfl
theorem o167_130 : OKp l S b Lx xs dC dI cA 167 130 (s_const (0)) := ok_iconst (n := 0) (by decide +kernel) (by decide) rfl
theorem o167_131 : OKp l S b Lx xs dC dI cA 167 131 (s_zret) := ok_zret (by decide +kernel) rfl
theorem o167_132 : OKp l S b Lx xs dC dI cA 167 132 (s_aload 0) := ok_aload_n (k9 := 0) (by decide +kernel) rfl rfl
theorem o167_133 : OKp l S b Lx xs dC dI cA 167 133 (s_iload 2) := ok_iload_n (k9 := 2) (by decide +kernel) rfl rfl
theorem o167_134 : OKp l S b Lx xs dC dI cA 167 134 (s_iload 3) := ok_iload_n (k9 := 3) (by decide +kernel) rfl rfl
theorem o167_135 : OKp l S b Lx xs dC dI cA 167 135 (s_const (-4)) := ok_bipush (n := -4) (by decide +kernel) (by decide) rfl
theorem o167_136 : OKp l S b Lx xs dC dI cA 167 136 (s_invV (dv1 12 161 4) [] 3) := ok_invV (dv1_ok vc_RX12_114_12 rfl (by decide) (hXX 161 (by decide))) (by decide +kernel) rfl
theorem o167_137 : OKp l S b Lx xs dC dI cA 167 137 (s_const (1)) := ok_iconst (n := 1) (by decide +kernel) (by decide) rfl
theorem o167_138 : OKp l S b Lx xs dC dI cA 167 138 (s_zret) := ok_zret (by decide +kernel) rfl
theorem o167_139 : OKp l S b Lx xs dC dI cA 167 139 (s_aload 0) := ok_aload_n (k9 := 0) (by decide +kernel) rfl rfl
theorem o167_140 : OKp l S b Lx xs dC dI cA 167 140 (s_iload 2) := ok_iload_n (k9 := 2) (by decide +kernel) rfl rfl
theorem o167_141 : OKp l S b Lx xs dC dI cA 167 141 (s_invV (dv1 12 142 2) [] 1) := ok_invV (dv1_ok vc_RX12_144_12 rfl (by decide) (hXX 142 (by decide))) (by decide +kernel) rfl
theorem o167_142 : OKp l S b Lx xs dC dI cA 167 142 (s_if (fun x => x = 0) 147) := ok_if_eq (off := 11) (by decide +kernel) (by decide +kernel) rfl
theorem o167_143 : OKp l S b Lx xs dC dI cA 167 143 (s_aload 0) := ok_aload_n (k9 := 0) (by decide +kernel) rfl rfl
theorem o167_144 : OKp l S b Lx xs dC dI cA 167 144 (s_iload 3) := ok_iload_n (k9 := 3) (by decide +kernel) rfl rfl
theorem o167_145 : OKp l S b Lx xs dC dI cA 167 145 (s_invV (dv1 12 141 2) [] 1) := ok_invV (dv1_ok vc_RX12_59_12 rfl (by decide) (hXX 141 (by decide))) (by decide +kernel) rfl
theorem o167_146 : OKp l S b Lx xs dC dI cA 167 146 (s_if (fun x => x ≠ 0) 149) := ok_if_ne (off := 5) (by decide +kernel) (by decide +kernel) rfl
theorem o167_147 : OKp l S b Lx xs dC dI cA 167 147 (s_const (0)) := ok_iconst (n := 0) (by decide +kernel) (by decide) rfl
theorem o167_148 : OKp l S b Lx xs dC dI cA 167 148 (s_zret) := ok_zret (by decide +kernel) rfl
theorem o167_149 : OKp l S b Lx xs dC dI cA 167 149 (s_aload 0) := ok_aload_n (k9 := 0) (by decide +kernel) rfl rfl
theorem o167_150 : OKp l S b Lx xs dC dI cA 167 150 (s_iload 2) := ok_iload_n (k9 := 2) (by decide +kernel) rfl rfl
theorem o167_151 : OKp l S b Lx xs dC dI cA 167 151 (s_iload 3) := ok_iload_n (k9 := 3) (by decide +kernel) rfl rfl
theorem o167_152 : OKp l S b Lx xs dC dI cA 167 152 (s_invV (dv1 12 162 5) [] 2) := ok_invV (dv1_ok vc_RX12_147_12 rfl (by decide) (hXX 162 (by decide))) (by decide +kernel) rfl
theorem o167_153 : OKp l S b Lx xs dC dI cA 167 153 (s_istore 4) := ok_istore (by decide +kernel) rfl
theorem o167_154 : OKp l S b Lx xs dC dI cA 167 154 (s_const (1)) := ok_iconst (n := 1) (by decide +kernel) (by decide) rfl
theorem o167_155 : OKp l S b Lx xs dC dI cA 167 155 (s_zret) := ok_zret (by decide +kernel) rfl
theorem a167_0 (hl9 : l.stackTraces = false) : sm_all (OKp l S b Lx xs dC dI cA 167) 0 sc_167_0 := ⟨o167_0, o167_1, o167_2, o167_3, o167_4, o167_5, o167_6, o167_7, o167_8, o167_9, o167_10, o167_11, o167_12, o167_13, o167_14, o167_15, o167_16, o167_17, o167_18, o167_19, o167_20, o167_21, o167_22, o167_23, o167_24, o167_25, o167_26, o167_27, o167_28, o167_29, o167_30, o167_31, o167_32, o167_33, o167_34, o167_35, o167_36, o167_37, o167_38, o167_39, o167_40, o167_41, o167_42, o167_43, o167_44, o167_45, o167_46, o167_47, o167_48, o167_49, o167_50, o167_51, o167_52, o167_53, o167_54, o167_55, o167_56, o167_57, o167_58, o167_59, trivial⟩
theorem a167_1 (hl9 : l.stackTraces = false) : sm_all (OKp l S b Lx xs dC dI cA 167) 60 sc_167_1 := ⟨o167_60, o167_61, o167_62, o167_63, o167_64, o167_65, o167_66, o167_67, o167_68, o167_69, o167_70, o167_71, o167_72, o167_73, o167_74, o167_75, o167_76, o167_77, o167_78, o167_79, o167_80, o167_81, o167_82, o167_83, o167_84, o167_85, o167_86, o167_87, o167_88, o167_89, o167_90, o167_91, o167_92, o167_93, o167_94, o167_95, o167_96, o167_97, o167_98, o167_99, o167_100, o167_101, o167_102, o167_103, o167_104, o167_105, o167_106, o167_107, o167_108, o167_109, o167_110, o167_111, o167_112, o167_113, o167_114, o167_115, o167_116, o167_117, o167_118, o167_119, trivial⟩
theorem a167_2 (hl9 : l.stackTraces = false) : sm_all (OKp l S b Lx xs dC dI cA 167) 120 sc_167_2 := ⟨o167_120, o167_121, o167_122, o167_123, o167_124, o167_125, o167_126, o167_127, o167_128, o167_129, o167_130, o167_131, o167_132, o167_133, o167_134, o167_135, o167_136, o167_137, o167_138, o167_139, o167_140, o167_141, o167_142, o167_143, o167_144, o167_145, o167_146, o167_147, o167_148, o167_149, o167_150, o167_151, o167_152, o167_153, o167_154, o167_155, trivial⟩
theorem a167 (hl9 : l.stackTraces = false) : sm_all (OKp l S b Lx xs dC dI cA 167) 0 sc_167 := sm_all_app _ _ _ (a167_0 hl9) (sm_all_app _ _ _ (a167_1 hl9) (a167_2 hl9))
theorem o168_0 : OKp l S b Lx xs dC dI cA 168 0 (s_iload 1) := ok_iload_n (k9 := 1) (by decide +kernel) rfl rfl
theorem o168_1 : OKp l S b Lx xs dC dI cA 168 1 (s_invS 140 1 1) := ok_invS rfl rfl (by decide) (hXX 140 (by decide)) w_1008 w_1009 w_61 c_140 (by decide +kernel) (by decide +kernel) rfl
theorem o168_2 : OKp l S b Lx xs dC dI cA 168 2 (s_if (fun x => x ≠ 0) 5) := ok_if_ne (off := 7) (by decide +kernel) (by decide +kernel) rfl
theorem o168_3 : OKp l S b Lx xs dC dI cA 168 3 (s_const (-1)) := ok_iconst (n := -1) (by decide +kernel) (by decide) rfl
theorem o168_4 : OKp l S b Lx xs dC dI cA 168 4 (s_goto 29) := ok_goto (off := 47) (by decide +kernel) (by decide +kernel)
theorem o168_5 : OKp l S b Lx xs dC dI cA 168 5 (s_aload 0) := ok_aload_n (k9 := 0) (by decide +kernel) rfl rfl
theorem o168_6 : OKp l S b Lx xs dC dI cA 168 6 (s_getR (fun t => t == 12) 4) := ok_getR (by decide +kernel) rfl fd_RX12_22
theorem o168_7 : OKp l S b Lx xs dC dI cA 168 7 (s_iload 1) := ok_iload_n (k9 := 1) (by decide +kernel) rfl rfl
theorem o168_8 : OKp l S b Lx xs dC dI cA 168 8 (s_iald) := ok_iald (by decide +kernel) rfl
theorem o168_9 : OKp l S b Lx xs dC dI cA 168 9 (s_if (fun x => x ≠ 0) 12) := ok_if_ne (off := 8) (by decide +kernel) (by decide +kernel) rfl
theorem o168_10 : OKp l S b Lx xs dC dI cA 168 10 (s_const (-11)) := ok_bipush (n := -11) (by decide +kernel) (by decide) rfl
theorem o168_11 : OKp l S b Lx xs dC dI cA 168 11 (s_goto 29) := ok_goto (off := 33) (by decide +kernel) (by decide +kernel)
theorem o168_12 : OKp l S b Lx xs dC dI cA 168 12 (s_aload 0) := ok_aload_n (k9 := 0) (by decide +kernel) rfl rfl
theorem o168_13 : OKp l S b Lx xs dC dI cA 168 13 (s_getR (fun t => t == 12) 4) := ok_getR (by decide +kernel) rfl fd_RX12_22
theorem o168_14 : OKp l S b Lx xs dC dI cA 168 14 (s_iload 1) := ok_iload_n (k9 := 1) (by decide +kernel) rfl rfl
theorem o168_15 : OKp l S b Lx xs dC dI cA 168 15 (s_iald) := ok_iald (by decide +kernel) rfl
theorem o168_16 : OKp l S b Lx xs dC dI cA 168 16 (s_const (2)) := ok_iconst (n := 2) (by decide +kernel) (by decide) rfl
theorem o168_17 : OKp l S b Lx xs dC dI cA 168 17 (s_icmp (fun x y => x ≠ y) 26) := ok_icmp_ne (off := 17) (by decide +kernel) (by decide +kernel) rfl
theorem o168_18 : OKp l S b Lx xs dC dI cA 168 18 (s_iload 2) := ok_iload_n (k9 := 2) (by decide +kernel) rfl rfl
theorem o168_19 : OKp l S b Lx xs dC dI cA 168 19 (s_if (fun x => x < 0) 28) := ok_if_lt (off := 18) (by decide +kernel) (by decide +kernel) rfl
theorem o168_20 : OKp l S b Lx xs dC dI cA 168 20 (s_aload 0) := ok_aload_n (k9 := 0) (by decide +kernel) rfl rfl
theorem o168_21 : OKp l S b Lx xs dC dI cA 168 21 (s_getR (fun t => t == 12) 5) := ok_getR (by decide +kernel) rfl fd_RX12_25
theorem o168_22 : OKp l S b Lx xs dC dI cA 168 22 (s_iload 1) := ok_iload_n (k9 := 1) (by decide +kernel) rfl rfl
theorem o168_23 : OKp l S b Lx xs dC dI cA 168 23 (s_iald) := ok_iald (by decide +kernel) rfl
theorem o168_24 : OKp l S b Lx xs dC dI cA 168 24 (s_iload 2) := ok_iload_n (k9 := 2) (by decide +kernel) rfl rfl
theorem o168_25 : OKp l S b Lx xs dC dI cA 168 25 (s_icmp (fun x y => x = y) 28) := ok_icmp_eq (off := 8) (by decide +kernel) (by decide +kernel) rfl
theorem o168_26 : OKp l S b Lx xs dC dI cA 168 26 (s_const (-12)) := ok_bipush (n := -12) (by decide +kernel) (by decide) rfl
theorem o168_27 : OKp l S b Lx xs dC dI cA 168 27 (s_goto 29) := ok_goto (off := 4) (by decide +kernel) (by decide +kernel)
theorem o168_28 : OKp l S b Lx xs dC dI cA 168 28 (s_const (0)) := ok_iconst (n := 0) (by decide +kernel) (by decide) rfl
theorem o168_29 : OKp l S b Lx xs dC dI cA 168 29 (s_ret) := ok_ret (by decide +kernel) rfl
theorem a168 (hl9 : l.stackTraces = false) : sm_all (OKp l S b Lx xs dC dI cA 168) 0 sc_168 := ⟨o168_0, o168_1, o168_2, o168_3, o168_4, o168_5, o168_6, o168_7, o168_8, o168_9, o168_10, o168_11, o168_12, o168_13, o168_14, o168_15, o168_16, o168_17, o168_18, o168_19, o168_20, o168_21, o168_22, o168_23, o168_24, o168_25, o168_26, o168_27, o168_28, o168_29, trivial⟩
theorem o169_0 : OKp l S b Lx xs dC dI cA 169 0 (s_aload 0) := ok_aload_n (k9 := 0) (by decide +kernel) rfl rfl
theorem o169_1 : OKp l S b Lx xs dC dI cA 169 1 (s_iload 1) := ok_iload_n (k9 := 1) (by decide +kernel) rfl rfl
theorem o169_2 : OKp l S b Lx xs dC dI cA 169 2 (s_const (0)) := ok_iconst (n := 0) (by decide +kernel) (by decide) rfl
theorem o169_3 : OKp l S b Lx xs dC dI cA 169 3 (s_invV (dv1 12 168 3) [] 2) := ok_invV (dv1_ok vc_RX12_153_12 rfl (by decide) (hXX 168 (by decide))) (by decide +kernel) rfl
theorem o169_4 : OKp l S b Lx xs dC dI cA 169 4 (s_istore 2) := ok_istore_n (k9 := 2) (by decide +kernel) rfl rfl
theorem o169_5 : OKp l S b Lx xs dC dI cA 169 5 (s_iload 2) := ok_iload_n (k9 := 2) (by decide +kernel) rfl rfl
theorem o169_6 : OKp l S b Lx xs dC dI cA 169 6 (s_if (fun x => x = 0) 9) := ok_if_eq (off := 5) (by decide +kernel) (by decide +kernel) rfl
theorem o169_7 : OKp l S b Lx xs dC dI cA 169 7 (s_iload 2) := ok_iload_n (k9 := 2) (by decide +kernel) rfl rfl
theorem o169_8 : OKp l S b Lx xs dC dI cA 169 8 (s_ret) := ok_ret (by decide +kernel) rfl
theorem o169_9 : OKp l S b Lx xs dC dI cA 169 9 (s_aload 0) := ok_aload_n (k9 := 0) (by decide +kernel) rfl rfl
theorem o169_10 : OKp l S b Lx xs dC dI cA 169 10 (s_const (100)) := ok_bipush (n := 100) (by decide +kernel) (by decide) rfl
theorem o169_11 : OKp l S b Lx xs dC dI cA 169 11 (s_iload 1) := ok_iload_n (k9 := 1) (by decide +kernel) rfl rfl
theorem o169_12 : OKp l S b Lx xs dC dI cA 169 12 (s_bin g_imul) := ok_imul (by decide +kernel) rfl
theorem o169_13 : OKp l S b Lx xs dC dI cA 169 13 (s_putI 12 13) := ok_putI (by decide +kernel) rfl fp_RX12_124 rfl
theorem o169_14 : OKp l S b Lx xs dC dI cA 169 14 (s_aload 0) := ok_aload_n (k9 := 0) (by decide +kernel) rfl rfl
theorem o169_15 : OKp l S b Lx xs dC dI cA 169 15 (s_aload 0) := ok_aload_n (k9 := 0) (by decide +kernel) rfl rfl
theorem o169_16 : OKp l S b Lx xs dC dI cA 169 16 (s_getR (fun t => t == 12) 6) := ok_getR (by decide +kernel) rfl fd_RX12_28
theorem o169_17 : OKp l S b Lx xs dC dI cA 169 17 (s_iload 1) := ok_iload_n (k9 := 1) (by decide +kernel) rfl rfl
theorem o169_18 : OKp l S b Lx xs dC dI cA 169 18 (s_iald) := ok_iald (by decide +kernel) rfl
theorem o169_19 : OKp l S b Lx xs dC dI cA 169 19 (s_putI 12 14) := ok_putI (by decide +kernel) rfl fp_RX12_121 rfl
theorem o169_20 : OKp l S b Lx xs dC dI cA 169 20 (s_aload 0) := ok_aload_n (k9 := 0) (by decide +kernel) rfl rfl
theorem o169_21 : OKp l S b Lx xs dC dI cA 169 21 (s_const (0)) := ok_iconst (n := 0) (by decide +kernel) (by decide) rfl
theorem o169_22 : OKp l S b Lx xs dC dI cA 169 22 (s_putI 12 12) := ok_putI (by decide +kernel) rfl fp_RX12_118 rfl
theorem o169_23 : OKp l S b Lx xs dC dI cA 169 23 (s_const (0)) := ok_iconst (n := 0) (by decide +kernel) (by decide) rfl
theorem o169_24 : OKp l S b Lx xs dC dI cA 169 24 (s_istore 3) := ok_istore_n (k9 := 3) (by decide +kernel) rfl rfl
theorem o169_25 : OKp l S b Lx xs dC dI cA 169 25 (s_aload 0) := ok_aload_n (k9 := 0) (by decide +kernel) rfl rfl
theorem o169_26 : OKp l S b Lx xs dC dI cA 169 26 (s_invV (dv1 12 165 3) [] 0) := ok_invV (dv1_ok vc_RX12_156_12 rfl (by decide) (hXX 165 (by decide))) (by decide +kernel) rfl
theorem o169_27 : OKp l S b Lx xs dC dI cA 169 27 (s_if (fun x => x ≠ 0) 33) := ok_if_ne (off := 12) (by decide +kernel) (by decide +kernel) rfl
theorem o169_28 : OKp l S b Lx xs dC dI cA 169 28 (s_const (-1000)) := ok_sipush (n := -1000) (by decide +kernel) (by decide) rfl
theorem o169_29 : OKp l S b Lx xs dC dI cA 169 29 (s_aload 0) := ok_aload_n (k9 := 0) (by decide +kernel) rfl rfl
theorem o169_30 : OKp l S b Lx xs dC dI cA 169 30 (s_getI (fun t => t == 12) 12) := ok_getI (by decide +kernel) rfl fd_RX12_118
theorem o169_31 : OKp l S b Lx xs dC dI cA 169 31 (s_bin g_isub) := ok_isub (by decide +kernel) rfl
theorem o169_32 : OKp l S b Lx xs dC dI cA 169 32 (s_ret) := ok_ret (by decide +kernel) rfl
theorem o169_33 : OKp l S b Lx xs dC dI cA 169 33 (s_iinc 3 (1)) := ok_iinc (n := 1) (by decide +kernel) (by decide) rfl
theorem o169_34 : OKp l S b Lx xs dC dI cA 169 34 (s_aload 0) := ok_aload_n (k9 := 0) (by decide +kernel) rfl rfl
theorem o169_35 : OKp l S b Lx xs dC dI cA 169 35 (s_getI (fun t => t == 12) 12) := ok_getI (by decide +kernel) rfl fd_RX12_118
theorem o169_36 : OKp l S b Lx xs dC dI cA 169 36 (s_aload 0) := ok_aload_n (k9 := 0) (by decide +kernel) rfl rfl
theorem o169_37 : OKp l S b Lx xs dC dI cA 169 37 (s_getI (fun t => t == 12) 14) := ok_getI (by decide +kernel) rfl fd_RX12_121
theorem o169_38 : OKp l S b Lx xs dC dI cA 169 38 (s_icmp (fun x y => x < y) 25) := ok_icmp_lt (off := -27) (by decide +kernel) (by decide +kernel) rfl
theorem o169_39 : OKp l S b Lx xs dC dI cA 169 39 (s_aload 0) := ok_aload_n (k9 := 0) (by decide +kernel) rfl rfl
theorem o169_40 : OKp l S b Lx xs dC dI cA 169 40 (s_getR (fun t => t == 12) 0) := ok_getR (by decide +kernel) rfl fd_RX12_9
theorem o169_41 : OKp l S b Lx xs dC dI cA 169 41 (s_aload 0) := ok_aload_n (k9 := 0) (by decide +kernel) rfl rfl
theorem o169_42 : OKp l S b Lx xs dC dI cA 169 42 (s_getR (fun t => t == 12) 2) := ok_getR (by decide +kernel) rfl fd_RX12_16
theorem o169_43 : OKp l S b Lx xs dC dI cA 169 43 (s_invS 152 2 3) := ok_invS rfl rfl (by decide) (hXX 152 (by decide)) w_1029 w_1030 w_61 c_152 (by decide +kernel) (by decide +kernel) rfl
theorem o169_44 : OKp l S b Lx xs dC dI cA 169 44 (s_aload 0) := ok_aload_n (k9 := 0) (by decide +kernel) rfl rfl
theorem o169_45 : OKp l S b Lx xs dC dI cA 169 45 (s_const (0)) := ok_iconst (n := 0) (by decide +kernel) (by decide) rfl
theorem o169_46 : OKp l S b Lx xs dC dI cA 169 46 (s_putI 12 12) := ok_putI (by decide +kernel) rfl fp_RX12_118 rfl
theorem o169_47 : OKp l S b Lx xs dC dI cA 169 47 (s_aload 0) := ok_aload_n (k9 := 0) (by decide +kernel) rfl rfl
theorem o169_48 : OKp l S b Lx xs dC dI cA 169 48 (s_getI (fun t => t == 12) 12) := ok_getI (by decide +kernel) rfl fd_RX12_118
theorem o169_49 : OKp l S b Lx xs dC dI cA 169 49 (s_aload 0) := ok_aload_n (k9 := 0) (by decide +kernel) rfl rfl
theorem o169_50 : OKp l S b Lx xs dC dI cA 169 50 (s_getI (fun t => t == 12) 14) := ok_getI (by decide +kernel) rfl fd_RX12_121
theorem o169_51 : OKp l S b Lx xs dC dI cA 169 51 (s_icmp (fun x y => y ≤ x) 75) := ok_icmp_ge (off := 51) (by decide +kernel) (by decide +kernel) rfl
theorem o169_52 : OKp l S b Lx xs dC dI cA 169 52 (s_aload 0) := ok_aload_n (k9 := 0) (by decide +kernel) rfl rfl
theorem o169_53 : OKp l S b Lx xs dC dI cA 169 53 (s_getI (fun t => t == 12) 12) := ok_getI (by decide +kernel) rfl fd_RX12_118
theorem o169_54 : OKp l S b Lx xs dC dI cA 169 54 (s_istore 4) := ok_istore (by decide +kernel) rfl
theorem o169_55 : OKp l S b Lx xs dC dI cA 169 55 (s_aload 0) := ok_aload_n (k9 := 0) (by decide +kernel) rfl rfl
theorem o169_56 : OKp l S b Lx xs dC dI cA 169 56 (s_invV (dv1 12 163 1) [] 0) := ok_invV (dv1_ok vc_RX12_127_12 rfl (by decide) (hXX 163 (by decide))) (by decide +kernel) rfl
theorem o169_57 : OKp l S b Lx xs dC dI cA 169 57 (s_istore 5) := ok_istore (by decide +kernel) rfl
theorem o169_58 : OKp l S b Lx xs dC dI cA 169 58 (s_aload 0) := ok_aload_n (k9 := 0) (by decide +kernel) rfl rfl
theorem o169_59 : OKp l S b Lx xs dC dI cA 169 59 (s_invV (dv1 12 165 3) [] 0) := ok_invV (dv1_ok vc_RX12_156_12 rfl (by decide) (hXX 165 (by decide))) (by decide +kernel) rfl
theorem o169_60 : OKp l S b Lx xs dC dI cA 169 60 (s_istore 6) := ok_istore (by decide +kernel) rfl
theorem o169_61 : OKp l S b Lx xs dC dI cA 169 61 (s_aload 0) := ok_aload_n (k9 := 0) (by decide +kernel) rfl rfl
theorem o169_62 : OKp l S b Lx xs dC dI cA 169 62 (s_iload 5) := ok_iload (by decide +kernel) rfl
theorem o169_63 : OKp l S b Lx xs dC dI cA 169 63 (s_invV (dv1 12 167 6) [] 1) := ok_invV (dv1_ok vc_RX12_164_12 rfl (by decide) (hXX 167 (by decide))) (by decide +kernel) rfl
theorem o169_64 : OKp l S b Lx xs dC dI cA 169 64 (s_if (fun x => x ≠ 0) 74) := ok_if_ne (off := 21) (by decide +kernel) (by decide +kernel) rfl
theorem o169_65 : OKp l S b Lx xs dC dI cA 169 65 (s_aload 0) := ok_aload_n (k9 := 0) (by decide +kernel) rfl rfl
theorem o169_66 : OKp l S b Lx xs dC dI cA 169 66 (s_getR (fun t => t == 12) 2) := ok_getR (by decide +kernel) rfl fd_RX12_16
theorem o169_67 : OKp l S b Lx xs dC dI cA 169 67 (s_aload 0) := ok_aload_n (k9 := 0) (by decide +kernel) rfl rfl
theorem o169_68 : OKp l S b Lx xs dC dI cA 169 68 (s_getR (fun t => t == 12) 0) := ok_getR (by decide +kernel) rfl fd_RX12_9
theorem o169_69 : OKp l S b Lx xs dC dI cA 169 69 (s_invS 152 2 3) := ok_invS rfl rfl (by decide) (hXX 152 (by decide)) w_1029 w_1030 w_61 c_152 (by decide +kernel) (by decide +kernel) rfl
theorem o169_70 : OKp l S b Lx xs dC dI cA 169 70 (s_const (-2000)) := ok_sipush (n := -2000) (by decide +kernel) (by decide) rfl
theorem o169_71 : OKp l S b Lx xs dC dI cA 169 71 (s_iload 4) := ok_iload (by decide +kernel) rfl
theorem o169_72 : OKp l S b Lx xs dC dI cA 169 72 (s_bin g_isub) := ok_isub (by decide +kernel) rfl
theorem o169_73 : OKp l S b Lx xs dC dI cA 169 73 (s_ret) := ok_ret (by decide +kernel) rfl
theorem o169_74 : OKp l S b Lx xs dC dI cA 169 74 (s_goto 47) := ok_goto (off := -56) (by decide +kernel) (by decide +kernel)
theorem o169_75 : OKp l S b Lx xs dC dI cA 169 75 (s_iload 3) := ok_iload_n (k9 := 3) (by decide +kernel) rfl rfl
theorem o169_76 : OKp l S b Lx xs dC dI cA 169 76 (s_ret) := ok_ret (by decide +kernel) rfl
theorem a169_0 (hl9 : l.stackTraces = false) : sm_all (OKp l S b Lx xs dC dI cA 169) 0 sc_169_0 := ⟨o169_0, o169_1, o169_2, o169_3, o169_4, o169_5, o169_6, o169_7, o169_8, o169_9, o169_10, o169_11, o169_12, o169_13, o169_14, o169_15, o169_16, o169_17, o169_18, o169_19, o169_20, o169_21, o169_22, o169_23, o169_24, o169_25, o169_26, o169_27, o169_28, o169_29, o169_30, o169_31, o169_32, o169_33, o169_34, o169_35, o169_36, o169_37, o169_38, o169_39, o169_40, o169_41, o169_42, o169_43, o169_44, o169_45, o169_46, o169_47, o169_48, o169_49, o169_50, o169_51, o169_52, o169_53, o169_54, o169_55, o169_56, o169_57, o169_58, o169_59, trivial⟩
theorem a169_1 (hl9 : l.stackTraces = false) : sm_all (OKp l S b Lx xs dC dI cA 169) 60 sc_169_1 := ⟨o169_60, o169_61, o169_62, o169_63, o169_64, o169_65, o169_66, o169_67, o169_68, o169_69, o169_70, o169_71, o169_72, o169_73, o169_74, o169_75, o169_76, trivial⟩
theorem a169 (hl9 : l.stackTraces = false) : sm_all (OKp l S b Lx xs dC dI cA 169) 0 sc_169 := sm_all_app _ _ _ (a169_0 hl9) (a169_1 hl9)
theorem o170_0 : OKp l S b Lx xs dC dI cA 170 0 (s_aload 0) := ok_aload_n (k9 := 0) (by decide +kernel) rfl rfl
theorem o170_1 : OKp l S b Lx xs dC dI cA 170 1 (s_iload 1) := ok_iload_n (k9 := 1) (by decide +kernel) rfl rfl
theorem o170_2 : OKp l S b Lx xs dC dI cA 170 2 (s_invV (dv1 12 141 2) [] 1) := ok_invV (dv1_ok vc_RX12_59_12 rfl (by decide) (hXX 141 (by decide))) (by decide +kernel) rfl
theorem o170_3 : OKp l S b Lx xs dC dI cA 170 3 (s_if (fun x => x = 0) 10) := ok_if_eq (off := 15) (by decide +kernel) (by decide +kernel) rfl
theorem o170_4 : OKp l S b Lx xs dC dI cA 170 4 (s_iload 2) := ok_iload_n (k9 := 2) (by decide +kernel) rfl rfl
theorem o170_5 : OKp l S b Lx xs dC dI cA 170 5 (s_i2l) := ok_i2l (by decide +kernel) rfl
theorem o170_6 : OKp l S b Lx xs dC dI cA 170 6 (s_lconst 0) := ok_lconst (n := 0) (by decide +kernel) (by decide) rfl
theorem o170_7 : OKp l S b Lx xs dC dI cA 170 7 (s_lconst (2)) := ok_ldc2 (k := 167) (by decide +kernel) w_1121 rfl
theorem o170_8 : OKp l S b Lx xs dC dI cA 170 8 (s_invS 139 3 6) := ok_invS rfl rfl (by decide) (hXX 139 (by decide)) w_1012 w_1013 w_61 c_139 (by decide +kernel) (by decide +kernel) rfl
theorem o170_9 : OKp l S b Lx xs dC dI cA 170 9 (s_if (fun x => x ≠ 0) 12) := ok_if_ne (off := 7) (by decide +kernel) (by decide +kernel) rfl
theorem o170_10 : OKp l S b Lx xs dC dI cA 170 10 (s_const (-1)) := ok_iconst (n := -1) (by decide +kernel) (by decide) rfl
theorem o170_11 : OKp l S b Lx xs dC dI cA 170 11 (s_goto 29) := ok_goto (off := 36) (by decide +kernel) (by decide +kernel)
theorem o170_12 : OKp l S b Lx xs dC dI cA 170 12 (s_iload 2) := ok_iload_n (k9 := 2) (by decide +kernel) rfl rfl
theorem o170_13 : OKp l S b Lx xs dC dI cA 170 13 (s_if (fun x => x ≠ 0) 18) := ok_if_ne (off := 11) (by decide +kernel) (by decide +kernel) rfl
theorem o170_14 : OKp l S b Lx xs dC dI cA 170 14 (s_aload 0) := ok_aload_n (k9 := 0) (by decide +kernel) rfl rfl
theorem o170_15 : OKp l S b Lx xs dC dI cA 170 15 (s_iload 1) := ok_iload_n (k9 := 1) (by decide +kernel) rfl rfl
theorem o170_16 : OKp l S b Lx xs dC dI cA 170 16 (s_invV (dv1 12 143 2) [] 1) := ok_invV (dv1_ok vc_RX12_63_12 rfl (by decide) (hXX 143 (by decide))) (by decide +kernel) rfl
theorem o170_17 : OKp l S b Lx xs dC dI cA 170 17 (s_goto 29) := ok_goto (off := 24) (by decide +kernel) (by decide +kernel)
theorem o170_18 : OKp l S b Lx xs dC dI cA 170 18 (s_iload 2) := ok_iload_n (k9 := 2) (by decide +kernel) rfl rfl
theorem o170_19 : OKp l S b Lx xs dC dI cA 170 19 (s_const (1)) := ok_iconst (n := 1) (by decide +kernel) (by decide) rfl
theorem o170_20 : OKp l S b Lx xs dC dI cA 170 20 (s_icmp (fun x y => x ≠ y) 26) := ok_icmp_ne (off := 14) (by decide +kernel) (by decide +kernel) rfl
theorem o170_21 : OKp l S b Lx xs dC dI cA 170 21 (s_aload 0) := ok_aload_n (k9 := 0) (by decide +kernel) rfl rfl
theorem o170_22 : OKp l S b Lx xs dC dI cA 170 22 (s_iload 1) := ok_iload_n (k9 := 1) (by decide +kernel) rfl rfl
theorem o170_23 : OKp l S b Lx xs dC dI cA 170 23 (s_invV (dv1 12 144 2) [] 1) := ok_invV (dv1_ok vc_RX12_67_12 rfl (by decide) (hXX 144 (by decide))) (by decide +kernel) rfl
theorem o170_24 : OKp l S b Lx xs dC dI cA 170 24 (s_invS 153 1 3) := ok_invS rfl rfl (by decide) (hXX 153 (by decide)) w_1100 w_1101 w_61 c_153 (by decide +kernel) (by decide +kernel) rfl
theorem o170_25 : OKp l S b Lx xs dC dI cA 170 25 (s_goto 29) := ok_goto (off := 8) (by decide +kernel) (by decide +kernel)
theorem o170_26 : OKp l S b Lx xs dC dI cA 170 26 (s_aload 0) := ok_aload_n (k9 := 0) (by decide +kernel) rfl rfl
theorem o170_27 : OKp l S b Lx xs dC dI cA 170 27 (s_iload 1) := ok_iload_n (k9 := 1) (by decide +kernel) rfl rfl
theorem o170_28 : OKp l S b Lx xs dC dI cA 170 28 (s_invV (dv1 12 144 2) [] 1) := ok_invV (dv1_ok vc_RX12_67_12 rfl (by decide) (hXX 144 (by decide))) (by decide +kernel) rfl
theorem o170_29 : OKp l S b Lx xs dC dI cA 170 29 (s_ret) := ok_ret (by decide +kernel) rfl
theorem a170 (hl9 : l.stackTraces = false) : sm_all (OKp l S b Lx xs dC dI cA 170) 0 sc_170 := ⟨o170_0, o170_1, o170_2, o170_3, o170_4, o170_5, o170_6, o170_7, o170_8, o170_9, o170_10, o170_11, o170_12, o170_13, o170_14, o170_15, o170_16, o170_17, o170_18, o170_19, o170_20, o170_21, o170_22, o170_23, o170_24, o170_25, o170_26, o170_27, o170_28, o170_29, trivial⟩
theorem o171_0 : OKp l S b Lx xs dC dI cA 171 0 (s_aload 0) := ok_aload_n (k9 := 0) (by decide +kernel) rfl rfl
theorem o171_1 : OKp l S b Lx xs dC dI cA 171 1 (s_iload 1) := ok_iload_n (k9 := 1) (by decide +kernel) rfl rfl
theorem o171_2 : OKp l S b Lx xs dC dI cA 171 2 (s_iload 2) := ok_iload_n (k9 := 2) (by decide +kernel) rfl rfl
theorem o171_3 : OKp l S b Lx xs dC dI cA 171 3 (s_invV (dv1 12 148 3) [] 2) := ok_invV (dv1_ok vc_RX12_138_12 rfl (by decide) (hXX 148 (by decide))) (by decide +kernel) rfl
theorem o171_4 : OKp l S b Lx xs dC dI cA 171 4 (s_if (fun x => x = 0) 11) := ok_if_eq (off := 15) (by decide +kernel) (by decide +kernel) rfl
theorem o171_5 : OKp l S b Lx xs dC dI cA 171 5 (s_iload 3) := ok_iload_n (k9 := 3) (by decide +kernel) rfl rfl
theorem o171_6 : OKp l S b Lx xs dC dI cA 171 6 (s_i2l) := ok_i2l (by decide +kernel) rfl
theorem o171_7 : OKp l S b Lx xs dC dI cA 171 7 (s_lconst 0) := ok_lconst (n := 0) (by decide +kernel) (by decide) rfl
theorem o171_8 : OKp l S b Lx xs dC dI cA 171 8 (s_lconst (2)) := ok_ldc2 (k := 167) (by decide +kernel) w_1121 rfl
theorem o171_9 : OKp l S b Lx xs dC dI cA 171 9 (s_invS 139 3 6) := ok_invS rfl rfl (by decide) (hXX 139 (by decide)) w_1012 w_1013 w_61 c_139 (by decide +kernel) (by decide +kernel) rfl
theorem o171_10 : OKp l S b Lx xs dC dI cA 171 10 (s_if (fun x => x ≠ 0) 13) := ok_if_ne (off := 7) (by decide +kernel) (by decide +kernel) rfl
theorem o171_11 : OKp l S b Lx xs dC dI cA 171 11 (s_const (-1)) := ok_iconst (n := -1) (by decide +kernel) (by decide) rfl
theorem o171_12 : OKp l S b Lx xs dC dI cA 171 12 (s_goto 42) := ok_goto (off := 53) (by decide +kernel) (by decide +kernel)
theorem o171_13 : OKp l S b Lx xs dC dI cA 171 13 (s_iload 3) := ok_iload_n (k9 := 3) (by decide +kernel) rfl rfl
theorem o171_14 : OKp l S b Lx xs dC dI cA 171 14 (s_if (fun x => x ≠ 0) 23) := ok_if_ne (off := 15) (by decide +kernel) (by decide +kernel) rfl
theorem o171_15 : OKp l S b Lx xs dC dI cA 171 15 (s_aload 0) := ok_aload_n (k9 := 0) (by decide +kernel) rfl rfl
theorem o171_16 : OKp l S b Lx xs dC dI cA 171 16 (s_iload 1) := ok_iload_n (k9 := 1) (by decide +kernel) rfl rfl
theorem o171_17 : OKp l S b Lx xs dC dI cA 171 17 (s_invV (dv1 12 144 2) [] 1) := ok_invV (dv1_ok vc_RX12_67_12 rfl (by decide) (hXX 144 (by decide))) (by decide +kernel) rfl
theorem o171_18 : OKp l S b Lx xs dC dI cA 171 18 (s_iload 2) := ok_iload_n (k9 := 2) (by decide +kernel) rfl rfl
theorem o171_19 : OKp l S b Lx xs dC dI cA 171 19 (s_bin g_ishr) := ok_ishr (by decide +kernel) rfl
theorem o171_20 : OKp l S b Lx xs dC dI cA 171 20 (s_const (1)) := ok_iconst (n := 1) (by decide +kernel) (by decide) rfl
theorem o171_21 : OKp l S b Lx xs dC dI cA 171 21 (s_bin g_iand) := ok_iand (by decide +kernel) rfl
theorem o171_22 : OKp l S b Lx xs dC dI cA 171 22 (s_goto 42) := ok_goto (off := 37) (by decide +kernel) (by decide +kernel)
theorem o171_23 : OKp l S b Lx xs dC dI cA 171 23 (s_iload 3) := ok_iload_n (k9 := 3) (by decide +kernel) rfl rfl
theorem o171_24 : OKp l S b Lx xs dC dI cA 171 24 (s_const (1)) := ok_iconst (n := 1) (by decide +kernel) (by decide) rfl
theorem o171_25 : OKp l S b Lx xs dC dI cA 171 25 (s_icmp (fun x y => x ≠ y) 31) := ok_icmp_ne (off := 12) (by decide +kernel) (by decide +kernel) rfl
theorem o171_26 : OKp l S b Lx xs dC dI cA 171 26 (s_aload 0) := ok_aload_n (k9 := 0) (by decide +kernel) rfl rfl
theorem o171_27 : OKp l S b Lx xs dC dI cA 171 27 (s_iload 1) := ok_iload_n (k9 := 1) (by decide +kernel) rfl rfl
theorem o171_28 : OKp l S b Lx xs dC dI cA 171 28 (s_iload 2) := ok_iload_n (k9 := 2) (by decide +kernel) rfl rfl
theorem o171_29 : OKp l S b Lx xs dC dI cA 171 29 (s_invV (dv1 12 146 3) [] 2) := ok_invV (dv1_ok vc_RX12_70_12 rfl (by decide) (hXX 146 (by decide))) (by decide +kernel) rfl
theorem o171_30 : OKp l S b Lx xs dC dI cA 171 30 (s_goto 42) := ok_goto (off := 23) (by decide +kernel) (by decide +kernel)
theorem o171_31 : OKp l S b Lx xs dC dI cA 171 31 (s_aload 0) := ok_aload_n (k9 := 0) (by decide +kernel) rfl rfl
theorem o171_32 : OKp l S b Lx xs dC dI cA 171 32 (s_iload 1) := ok_iload_n (k9 := 1) (by decide +kernel) rfl rfl
theorem o171_33 : OKp l S b Lx xs dC dI cA 171 33 (s_iload 2) := ok_iload_n (k9 := 2) (by decide +kernel) rfl rfl
theorem o171_34 : OKp l S b Lx xs dC dI cA 171 34 (s_invV (dv1 12 149 3) [] 2) := ok_invV (dv1_ok vc_RX12_90_12 rfl (by decide) (hXX 149 (by decide))) (by decide +kernel) rfl
theorem o171_35 : OKp l S b Lx xs dC dI cA 171 35 (s_if (fun x => x = 0) 38) := ok_if_eq (off := 8) (by decide +kernel) (by decide +kernel) rfl
theorem o171_36 : OKp l S b Lx xs dC dI cA 171 36 (s_const (-4)) := ok_bipush (n := -4) (by decide +kernel) (by decide) rfl
theorem o171_37 : OKp l S b Lx xs dC dI cA 171 37 (s_goto 42) := ok_goto (off := 9) (by decide +kernel) (by decide +kernel)
theorem o171_38 : OKp l S b Lx xs dC dI cA 171 38 (s_aload 0) := ok_aload_n (k9 := 0) (by decide +kernel) rfl rfl
theorem o171_39 : OKp l S b Lx xs dC dI cA 171 39 (s_iload 1) := ok_iload_n (k9 := 1) (by decide +kernel) rfl rfl
theorem o171_40 : OKp l S b Lx xs dC dI cA 171 40 (s_iload 2) := ok_iload_n (k9 := 2) (by decide +kernel) rfl rfl
theorem o171_41 : OKp l S b Lx xs dC dI cA 171 41 (s_invV (dv1 12 147 3) [] 2) := ok_invV (dv1_ok vc_RX12_169_12 rfl (by decide) (hXX 147 (by decide))) (by decide +kernel) rfl
theorem o171_42 : OKp l S b Lx xs dC dI cA 171 42 (s_ret) := ok_ret (by decide +kernel) rfl
theorem a171 (hl9 : l.stackTraces = false) : sm_all (OKp l S b Lx xs dC dI cA 171) 0 sc_171 := ⟨o171_0, o171_1, o171_2, o171_3, o171_4, o171_5, o171_6, o171_7, o171_8, o171_9, o171_10, o171_11, o171_12, o171_13, o171_14, o171_15, o171_16, o171_17, o171_18, o171_19, o171_20, o171_21, o171_22, o171_23, o171_24, o171_25, o171_26, o171_27, o171_28, o171_29, o171_30, o171_31, o171_32, o171_33, o171_34, o171_35, o171_36, o171_37, o171_38, o171_39, o171_40, o171_41, o171_42, trivial⟩
theorem o172_0 : OKp l S b Lx xs dC dI cA 172 0 (s_const (0)) := ok_iconst (n := 0) (by decide +kernel) (by decide) rfl
theorem o172_1 : OKp l S b Lx xs dC dI cA 172 1 (s_istore 3) := ok_istore_n (k9 := 3) (by decide +kernel) rfl rfl
theorem o172_2 : OKp l S b Lx xs dC dI cA 172 2 (s_const (0)) := ok_iconst (n := 0) (by decide +kernel) (by decide) rfl
theorem o172_3 : OKp l S b Lx xs dC dI cA 172 3 (s_istore 4) := ok_istore (by decide +kernel) rfl
theorem o172_4 : OKp l S b Lx xs dC dI cA 172 4 (s_iload 4) := ok_iload (by decide +kernel) rfl
theorem o172_5 : OKp l S b Lx xs dC dI cA 172 5 (s_aload 0) := ok_aload_n (k9 := 0) (by decide +kernel) rfl rfl
theorem o172_6 : OKp l S b Lx xs dC dI cA 172 6 (s_iload 2) := ok_iload_n (k9 := 2) (by decide +kernel) rfl rfl
theorem o172_7 : OKp l S b Lx xs dC dI cA 172 7 (s_invV (dv1 12 143 2) [] 1) := ok_invV (dv1_ok vc_RX12_63_12 rfl (by decide) (hXX 143 (by decide))) (by decide +kernel) rfl
theorem o172_8 : OKp l S b Lx xs dC dI cA 172 8 (s_icmp (fun x y => y ≤ x) 28) := ok_icmp_ge (off := 37) (by decide +kernel) (by decide +kernel) rfl
theorem o172_9 : OKp l S b Lx xs dC dI cA 172 9 (s_aload 0) := ok_aload_n (k9 := 0) (by decide +kernel) rfl rfl
theorem o172_10 : OKp l S b Lx xs dC dI cA 172 10 (s_iload 2) := ok_iload_n (k9 := 2) (by decide +kernel) rfl rfl
theorem o172_11 : OKp l S b Lx xs dC dI cA 172 11 (s_iload 4) := ok_iload (by decide +kernel) rfl
theorem o172_12 : OKp l S b Lx xs dC dI cA 172 12 (s_invV (dv1 12 149 3) [] 2) := ok_invV (dv1_ok vc_RX12_90_12 rfl (by decide) (hXX 149 (by decide))) (by decide +kernel) rfl
theorem o172_13 : OKp l S b Lx xs dC dI cA 172 13 (s_if (fun x => x ≠ 0) 26) := ok_if_ne (off := 21) (by decide +kernel) (by decide +kernel) rfl
theorem o172_14 : OKp l S b Lx xs dC dI cA 172 14 (s_aload 0) := ok_aload_n (k9 := 0) (by decide +kernel) rfl rfl
theorem o172_15 : OKp l S b Lx xs dC dI cA 172 15 (s_iload 2) := ok_iload_n (k9 := 2) (by decide +kernel) rfl rfl
theorem o172_16 : OKp l S b Lx xs dC dI cA 172 16 (s_iload 4) := ok_iload (by decide +kernel) rfl
theorem o172_17 : OKp l S b Lx xs dC dI cA 172 17 (s_invV (dv1 12 147 3) [] 2) := ok_invV (dv1_ok vc_RX12_169_12 rfl (by decide) (hXX 147 (by decide))) (by decide +kernel) rfl
theorem o172_18 : OKp l S b Lx xs dC dI cA 172 18 (s_iload 1) := ok_iload_n (k9 := 1) (by decide +kernel) rfl rfl
theorem o172_19 : OKp l S b Lx xs dC dI cA 172 19 (s_icmp (fun x y => x ≠ y) 26) := ok_icmp_ne (off := 10) (by decide +kernel) (by decide +kernel) rfl
theorem o172_20 : OKp l S b Lx xs dC dI cA 172 20 (s_iload 3) := ok_iload_n (k9 := 3) (by decide +kernel) rfl rfl
theorem o172_21 : OKp l S b Lx xs dC dI cA 172 21 (s_const (1)) := ok_iconst (n := 1) (by decide +kernel) (by decide) rfl
theorem o172_22 : OKp l S b Lx xs dC dI cA 172 22 (s_iload 4) := ok_iload (by decide +kernel) rfl
theorem o172_23 : OKp l S b Lx xs dC dI cA 172 23 (s_bin g_ishl) := ok_ishl (by decide +kernel) rfl
theorem o172_24 : OKp l S b Lx xs dC dI cA 172 24 (s_bin g_ior) := ok_ior (by decide +kernel) rfl
theorem o172_25 : OKp l S b Lx xs dC dI cA 172 25 (s_istore 3) := ok_istore_n (k9 := 3) (by decide +kernel) rfl rfl
theorem o172_26 : OKp l S b Lx xs dC dI cA 172 26 (s_iinc 4 (1)) := ok_iinc (n := 1) (by decide +kernel) (by decide) rfl
theorem o172_27 : OKp l S b Lx xs dC dI cA 172 27 (s_goto 4) := ok_goto (off := -41) (by decide +kernel) (by decide +kernel)
theorem o172_28 : OKp l S b Lx xs dC dI cA 172 28 (s_iload 3) := ok_iload_n (k9 := 3) (by decide +kernel) rfl rfl
theorem o172_29 : OKp l S b Lx xs dC dI cA 172 29 (s_ret) := ok_ret (by decide +kernel) rfl
theorem a172 (hl9 : l.stackTraces = false) : sm_all (OKp l S b Lx xs dC dI cA 172) 0 sc_172 := ⟨o172_0, o172_1, o172_2, o172_3, o172_4, o172_5, o172_6, o172_7, o172_8, o172_9, o172_10, o172_11, o172_12, o172_13, o172_14, o172_15, o172_16, o172_17, o172_18, o172_19, o172_20, o172_21, o172_22, o172_23, o172_24, o172_25, o172_26, o172_27, o172_28, o172_29, trivial⟩
theorem o173_0 : OKp l S b Lx xs dC dI cA 173 0 (s_const (0)) := ok_iconst (n := 0) (by decide +kernel) (by decide) rfl
theorem o173_1 : OKp l S b Lx xs dC dI cA 173 1 (s_istore 2) := ok_istore_n (k9 := 2) (by decide +kernel) rfl rfl
theorem o173_2 : OKp l S b Lx xs dC dI cA 173 2 (s_const (0)) := ok_iconst (n := 0) (by decide +kernel) (by decide) rfl
theorem o173_3 : OKp l S b Lx xs dC dI cA 173 3 (s_istore 3) := ok_istore_n (k9 := 3) (by decide +kernel) rfl rfl
theorem o173_4 : OKp l S b Lx xs dC dI cA 173 4 (s_iload 3) := ok_iload_n (k9 := 3) (by decide +kernel) rfl rfl
theorem o173_5 : OKp l S b Lx xs dC dI cA 173 5 (s_aload 0) := ok_aload_n (k9 := 0) (by decide +kernel) rfl rfl
theorem o173_6 : OKp l S b Lx xs dC dI cA 173 6 (s_getR (fun t => t == 12) 0) := ok_getR (by decide +kernel) rfl fd_RX12_9
theorem o173_7 : OKp l S b Lx xs dC dI cA 173 7 (s_const (0)) := ok_iconst (n := 0) (by decide +kernel) (by decide) rfl
theorem o173_8 : OKp l S b Lx xs dC dI cA 173 8 (s_iald) := ok_iald (by decide +kernel) rfl
theorem o173_9 : OKp l S b Lx xs dC dI cA 173 9 (s_icmp (fun x y => y ≤ x) 20) := ok_icmp_ge (off := 21) (by decide +kernel) (by decide +kernel) rfl
theorem o173_10 : OKp l S b Lx xs dC dI cA 173 10 (s_iload 2) := ok_iload_n (k9 := 2) (by decide +kernel) rfl rfl
theorem o173_11 : OKp l S b Lx xs dC dI cA 173 11 (s_aload 0) := ok_aload_n (k9 := 0) (by decide +kernel) rfl rfl
theorem o173_12 : OKp l S b Lx xs dC dI cA 173 12 (s_iload 1) := ok_iload_n (k9 := 1) (by decide +kernel) rfl rfl
theorem o173_13 : OKp l S b Lx xs dC dI cA 173 13 (s_iload 3) := ok_iload_n (k9 := 3) (by decide +kernel) rfl rfl
theorem o173_14 : OKp l S b Lx xs dC dI cA 173 14 (s_invV (dv1 12 172 5) [] 2) := ok_invV (dv1_ok vc_RX12_172_12 rfl (by decide) (hXX 172 (by decide))) (by decide +kernel) rfl
theorem o173_15 : OKp l S b Lx xs dC dI cA 173 15 (s_invS 153 1 3) := ok_invS rfl rfl (by decide) (hXX 153 (by decide)) w_1100 w_1101 w_61 c_153 (by decide +kernel) (by decide +kernel) rfl
theorem o173_16 : OKp l S b Lx xs dC dI cA 173 16 (s_bin g_iadd) := ok_iadd (by decide +kernel) rfl
theorem o173_17 : OKp l S b Lx xs dC dI cA 173 17 (s_istore 2) := ok_istore_n (k9 := 2) (by decide +kernel) rfl rfl
theorem o173_18 : OKp l S b Lx xs dC dI cA 173 18 (s_iinc 3 (1)) := ok_iinc (n := 1) (by decide +kernel) (by decide) rfl
theorem o173_19 : OKp l S b Lx xs dC dI cA 173 19 (s_goto 4) := ok_goto (off := -25) (by decide +kernel) (by decide +kernel)
theorem o173_20 : OKp l S b Lx xs dC dI cA 173 20 (s_iload 2) := ok_iload_n (k9 := 2) (by decide +kernel) rfl rfl
theorem o173_21 : OKp l S b Lx xs dC dI cA 173 21 (s_ret) := ok_ret (by decide +kernel) rfl
theorem a173 (hl9 : l.stackTraces = false) : sm_all (OKp l S b Lx xs dC dI cA 173) 0 sc_173 := ⟨o173_0, o173_1, o173_2, o173_3, o173_4, o173_5, o173_6, o173_7, o173_8, o173_9, o173_10, o173_11, o173_12, o173_13, o173_14, o173_15, o173_16, o173_17, o173_18, o173_19, o173_20, o173_21, trivial⟩
theorem o174_0 : OKp l S b Lx xs dC dI cA 174 0 (s_aload 0) := ok_aload_n (k9 := 0) (by decide +kernel) rfl rfl
theorem o174_1 : OKp l S b Lx xs dC dI cA 174 1 (s_iload 1) := ok_iload_n (k9 := 1) (by decide +kernel) rfl rfl
theorem o174_2 : OKp l S b Lx xs dC dI cA 174 2 (s_invV (dv1 12 142 2) [] 1) := ok_invV (dv1_ok vc_RX12_144_12 rfl (by decide) (hXX 142 (by decide))) (by decide +kernel) rfl
theorem o174_3 : OKp l S b Lx xs dC dI cA 174 3 (s_if (fun x => x = 0) 10) := ok_if_eq (off := 15) (by decide +kernel) (by decide +kernel) rfl
theorem o174_4 : OKp l S b Lx xs dC dI cA 174 4 (s_iload 2) := ok_iload_n (k9 := 2) (by decide +kernel) rfl rfl
theorem o174_5 : OKp l S b Lx xs dC dI cA 174 5 (s_i2l) := ok_i2l (by decide +kernel) rfl
theorem o174_6 : OKp l S b Lx xs dC dI cA 174 6 (s_lconst 0) := ok_lconst (n := 0) (by decide +kernel) (by decide) rfl
theorem o174_7 : OKp l S b Lx xs dC dI cA 174 7 (s_lconst (2)) := ok_ldc2 (k := 167) (by decide +kernel) w_1121 rfl
theorem o174_8 : OKp l S b Lx xs dC dI cA 174 8 (s_invS 139 3 6) := ok_invS rfl rfl (by decide) (hXX 139 (by decide)) w_1012 w_1013 w_61 c_139 (by decide +kernel) (by decide +kernel) rfl
theorem o174_9 : OKp l S b Lx xs dC dI cA 174 9 (s_if (fun x => x ≠ 0) 12) := ok_if_ne (off := 7) (by decide +kernel) (by decide +kernel) rfl
theorem o174_10 : OKp l S b Lx xs dC dI cA 174 10 (s_const (-1)) := ok_iconst (n := -1) (by decide +kernel) (by decide) rfl
theorem o174_11 : OKp l S b Lx xs dC dI cA 174 11 (s_goto 28) := ok_goto (off := 33) (by decide +kernel) (by decide +kernel)
theorem o174_12 : OKp l S b Lx xs dC dI cA 174 12 (s_iload 2) := ok_iload_n (k9 := 2) (by decide +kernel) rfl rfl
theorem o174_13 : OKp l S b Lx xs dC dI cA 174 13 (s_if (fun x => x ≠ 0) 18) := ok_if_ne (off := 11) (by decide +kernel) (by decide +kernel) rfl
theorem o174_14 : OKp l S b Lx xs dC dI cA 174 14 (s_aload 0) := ok_aload_n (k9 := 0) (by decide +kernel) rfl rfl
theorem o174_15 : OKp l S b Lx xs dC dI cA 174 15 (s_iload 1) := ok_iload_n (k9 := 1) (by decide +kernel) rfl rfl
theorem o174_16 : OKp l S b Lx xs dC dI cA 174 16 (s_invV (dv1 12 150 2) [] 1) := ok_invV (dv1_ok vc_RX12_80_12 rfl (by decide) (hXX 150 (by decide))) (by decide +kernel) rfl
theorem o174_17 : OKp l S b Lx xs dC dI cA 174 17 (s_goto 28) := ok_goto (off := 21) (by decide +kernel) (by decide +kernel)
theorem o174_18 : OKp l S b Lx xs dC dI cA 174 18 (s_iload 2) := ok_iload_n (k9 := 2) (by decide +kernel) rfl rfl
theorem o174_19 : OKp l S b Lx xs dC dI cA 174 19 (s_const (1)) := ok_iconst (n := 1) (by decide +kernel) (by decide) rfl
theorem o174_20 : OKp l S b Lx xs dC dI cA 174 20 (s_icmp (fun x y => x ≠ y) 25) := ok_icmp_ne (off := 11) (by decide +kernel) (by decide +kernel) rfl
theorem o174_21 : OKp l S b Lx xs dC dI cA 174 21 (s_aload 0) := ok_aload_n (k9 := 0) (by decide +kernel) rfl rfl
theorem o174_22 : OKp l S b Lx xs dC dI cA 174 22 (s_iload 1) := ok_iload_n (k9 := 1) (by decide +kernel) rfl rfl
theorem o174_23 : OKp l S b Lx xs dC dI cA 174 23 (s_invV (dv1 12 151 2) [] 1) := ok_invV (dv1_ok vc_RX12_83_12 rfl (by decide) (hXX 151 (by decide))) (by decide +kernel) rfl
theorem o174_24 : OKp l S b Lx xs dC dI cA 174 24 (s_goto 28) := ok_goto (off := 8) (by decide +kernel) (by decide +kernel)
theorem o174_25 : OKp l S b Lx xs dC dI cA 174 25 (s_aload 0) := ok_aload_n (k9 := 0) (by decide +kernel) rfl rfl
theorem o174_26 : OKp l S b Lx xs dC dI cA 174 26 (s_iload 1) := ok_iload_n (k9 := 1) (by decide +kernel) rfl rfl
theorem o174_27 : OKp l S b Lx xs dC dI cA 174 27 (s_invV (dv1 12 173 4) [] 1) := ok_invV (dv1_ok vc_RX12_175_12 rfl (by decide) (hXX 173 (by decide))) (by decide +kernel) rfl
theorem o174_28 : OKp l S b Lx xs dC dI cA 174 28 (s_ret) := ok_ret (by decide +kernel) rfl
theorem a174 (hl9 : l.stackTraces = false) : sm_all (OKp l S b Lx xs dC dI cA 174) 0 sc_174 := ⟨o174_0, o174_1, o174_2, o174_3, o174_4, o174_5, o174_6, o174_7, o174_8, o174_9, o174_10, o174_11, o174_12, o174_13, o174_14, o174_15, o174_16, o174_17, o174_18, o174_19, o174_20, o174_21, o174_22, o174_23, o174_24, o174_25, o174_26, o174_27, o174_28, trivial⟩
theorem o175_0 : OKp l S b Lx xs dC dI cA 175 0 (s_aload 0) := ok_aload_n (k9 := 0) (by decide +kernel) rfl rfl
theorem o175_1 : OKp l S b Lx xs dC dI cA 175 1 (s_iload 1) := ok_iload_n (k9 := 1) (by decide +kernel) rfl rfl
theorem o175_2 : OKp l S b Lx xs dC dI cA 175 2 (s_invV (dv1 12 141 2) [] 1) := ok_invV (dv1_ok vc_RX12_59_12 rfl (by decide) (hXX 141 (by decide))) (by decide +kernel) rfl
theorem o175_3 : OKp l S b Lx xs dC dI cA 175 3 (s_if (fun x => x = 0) 11) := ok_if_eq (off := 16) (by decide +kernel) (by decide +kernel) rfl
theorem o175_4 : OKp l S b Lx xs dC dI cA 175 4 (s_aload 0) := ok_aload_n (k9 := 0) (by decide +kernel) rfl rfl
theorem o175_5 : OKp l S b Lx xs dC dI cA 175 5 (s_iload 1) := ok_iload_n (k9 := 1) (by decide +kernel) rfl rfl
theorem o175_6 : OKp l S b Lx xs dC dI cA 175 6 (s_aload 0) := ok_aload_n (k9 := 0) (by decide +kernel) rfl rfl
theorem o175_7 : OKp l S b Lx xs dC dI cA 175 7 (s_iload 1) := ok_iload_n (k9 := 1) (by decide +kernel) rfl rfl
theorem o175_8 : OKp l S b Lx xs dC dI cA 175 8 (s_invV (dv1 12 144 2) [] 1) := ok_invV (dv1_ok vc_RX12_67_12 rfl (by decide) (hXX 144 (by decide))) (by decide +kernel) rfl
theorem o175_9 : OKp l S b Lx xs dC dI cA 175 9 (s_invV (dv1 12 156 6) [] 2) := ok_invV (dv1_ok vc_RX12_74_12 rfl (by decide) (hXX 156 (by decide))) (by decide +kernel) rfl
theorem o175_10 : OKp l S b Lx xs dC dI cA 175 10 (s_goto 12) := ok_goto (off := 4) (by decide +kernel) (by decide +kernel)
theorem o175_11 : OKp l S b Lx xs dC dI cA 175 11 (s_const (-1)) := ok_iconst (n := -1) (by decide +kernel) (by decide) rfl
theorem o175_12 : OKp l S b Lx xs dC dI cA 175 12 (s_ret) := ok_ret (by decide +kernel) rfl
theorem a175 (hl9 : l.stackTraces = false) : sm_all (OKp l S b Lx xs dC dI cA 175) 0 sc_175 := ⟨o175_0, o175_1, o175_2, o175_3, o175_4, o175_5, o175_6, o175_7, o175_8, o175_9, o175_10, o175_11, o175_12, trivial⟩
theorem o176_0 : OKp l S b Lx xs dC dI cA 176 0 (s_aload 0) := ok_aload_n (k9 := 0) (by decide +kernel) rfl rfl
theorem o176_1 : OKp l S b Lx xs dC dI cA 176 1 (s_iload 1) := ok_iload_n (k9 := 1) (by decide +kernel) rfl rfl
theorem o176_2 : OKp l S b Lx xs dC dI cA 176 2 (s_invV (dv1 12 142 2) [] 1) := ok_invV (dv1_ok vc_RX12_144_12 rfl (by decide) (hXX 142 (by decide))) (by decide +kernel) rfl
theorem o176_3 : OKp l S b Lx xs dC dI cA 176 3 (s_if (fun x => x = 0) 10) := ok_if_eq (off := 15) (by decide +kernel) (by decide +kernel) rfl
theorem o176_4 : OKp l S b Lx xs dC dI cA 176 4 (s_aload 0) := ok_aload_n (k9 := 0) (by decide +kernel) rfl rfl
theorem o176_5 : OKp l S b Lx xs dC dI cA 176 5 (s_iload 2) := ok_iload_n (k9 := 2) (by decide +kernel) rfl rfl
theorem o176_6 : OKp l S b Lx xs dC dI cA 176 6 (s_invV (dv1 12 141 2) [] 1) := ok_invV (dv1_ok vc_RX12_59_12 rfl (by decide) (hXX 141 (by decide))) (by decide +kernel) rfl
theorem o176_7 : OKp l S b Lx xs dC dI cA 176 7 (s_if (fun x => x = 0) 10) := ok_if_eq (off := 7) (by decide +kernel) (by decide +kernel) rfl
theorem o176_8 : OKp l S b Lx xs dC dI cA 176 8 (s_const (1)) := ok_iconst (n := 1) (by decide +kernel) (by decide) rfl
theorem o176_9 : OKp l S b Lx xs dC dI cA 176 9 (s_goto 11) := ok_goto (off := 4) (by decide +kernel) (by decide +kernel)
theorem o176_10 : OKp l S b Lx xs dC dI cA 176 10 (s_const (0)) := ok_iconst (n := 0) (by decide +kernel) (by decide) rfl
theorem o176_11 : OKp l S b Lx xs dC dI cA 176 11 (s_zret) := ok_zret (by decide +kernel) rfl
theorem a176 (hl9 : l.stackTraces = false) : sm_all (OKp l S b Lx xs dC dI cA 176) 0 sc_176 := ⟨o176_0, o176_1, o176_2, o176_3, o176_4, o176_5, o176_6, o176_7, o176_8, o176_9, o176_10, o176_11, trivial⟩
theorem o177_0 : OKp l S b Lx xs dC dI cA 177 0 (s_aload 0) := ok_aload_n (k9 := 0) (by decide +kernel) rfl rfl
theorem o177_1 : OKp l S b Lx xs dC dI cA 177 1 (s_iload 1) := ok_iload_n (k9 := 1) (by decide +kernel) rfl rfl
theorem o177_2 : OKp l S b Lx xs dC dI cA 177 2 (s_iload 2) := ok_iload_n (k9 := 2) (by decide +kernel) rfl rfl
theorem o177_3 : OKp l S b Lx xs dC dI cA 177 3 (s_invV (dv1 12 176 3) [] 2) := ok_invV (dv1_ok vc_RX12_178_12 rfl (by decide) (hXX 176 (by decide))) (by decide +kernel) rfl
theorem o177_4 : OKp l S b Lx xs dC dI cA 177 4 (s_if (fun x => x = 0) 10) := ok_if_eq (off := 12) (by decide +kernel) (by decide +kernel) rfl
theorem o177_5 : OKp l S b Lx xs dC dI cA 177 5 (s_aload 0) := ok_aload_n (k9 := 0) (by decide +kernel) rfl rfl
theorem o177_6 : OKp l S b Lx xs dC dI cA 177 6 (s_iload 1) := ok_iload_n (k9 := 1) (by decide +kernel) rfl rfl
theorem o177_7 : OKp l S b Lx xs dC dI cA 177 7 (s_iload 2) := ok_iload_n (k9 := 2) (by decide +kernel) rfl rfl
theorem o177_8 : OKp l S b Lx xs dC dI cA 177 8 (s_invV (dv1 12 158 3) [] 2) := ok_invV (dv1_ok vc_RX12_108_12 rfl (by decide) (hXX 158 (by decide))) (by decide +kernel) rfl
theorem o177_9 : OKp l S b Lx xs dC dI cA 177 9 (s_goto 11) := ok_goto (off := 4) (by decide +kernel) (by decide +kernel)
theorem o177_10 : OKp l S b Lx xs dC dI cA 177 10 (s_const (-1)) := ok_iconst (n := -1) (by decide +kernel) (by decide) rfl
theorem o177_11 : OKp l S b Lx xs dC dI cA 177 11 (s_ret) := ok_ret (by decide +kernel) rfl
theorem a177 (hl9 : l.stackTraces = false) : sm_all (OKp l S b Lx xs dC dI cA 177) 0 sc_177 := ⟨o177_0, o177_1, o177_2, o177_3, o177_4, o177_5, o177_6, o177_7, o177_8, o177_9, o177_10, o177_11, trivial⟩
theorem o178_0 : OKp l S b Lx xs dC dI cA 178 0 (s_aload 0) := ok_aload_n (k9 := 0) (by decide +kernel) rfl rfl
theorem o178_1 : OKp l S b Lx xs dC dI cA 178 1 (s_iload 1) := ok_iload_n (k9 := 1) (by decide +kernel) rfl rfl
theorem o178_2 : OKp l S b Lx xs dC dI cA 178 2 (s_iload 2) := ok_iload_n (k9 := 2) (by decide +kernel) rfl rfl
theorem o178_3 : OKp l S b Lx xs dC dI cA 178 3 (s_invV (dv1 12 176 3) [] 2) := ok_invV (dv1_ok vc_RX12_178_12 rfl (by decide) (hXX 176 (by decide))) (by decide +kernel) rfl
theorem o178_4 : OKp l S b Lx xs dC dI cA 178 4 (s_if (fun x => x = 0) 15) := ok_if_eq (off := 21) (by decide +kernel) (by decide +kernel) rfl
theorem o178_5 : OKp l S b Lx xs dC dI cA 178 5 (s_aload 0) := ok_aload_n (k9 := 0) (by decide +kernel) rfl rfl
theorem o178_6 : OKp l S b Lx xs dC dI cA 178 6 (s_aload 0) := ok_aload_n (k9 := 0) (by decide +kernel) rfl rfl
theorem o178_7 : OKp l S b Lx xs dC dI cA 178 7 (s_iload 1) := ok_iload_n (k9 := 1) (by decide +kernel) rfl rfl
theorem o178_8 : OKp l S b Lx xs dC dI cA 178 8 (s_invV (dv1 12 150 2) [] 1) := ok_invV (dv1_ok vc_RX12_80_12 rfl (by decide) (hXX 150 (by decide))) (by decide +kernel) rfl
theorem o178_9 : OKp l S b Lx xs dC dI cA 178 9 (s_aload 0) := ok_aload_n (k9 := 0) (by decide +kernel) rfl rfl
theorem o178_10 : OKp l S b Lx xs dC dI cA 178 10 (s_iload 1) := ok_iload_n (k9 := 1) (by decide +kernel) rfl rfl
theorem o178_11 : OKp l S b Lx xs dC dI cA 178 11 (s_invV (dv1 12 151 2) [] 1) := ok_invV (dv1_ok vc_RX12_83_12 rfl (by decide) (hXX 151 (by decide))) (by decide +kernel) rfl
theorem o178_12 : OKp l S b Lx xs dC dI cA 178 12 (s_iload 2) := ok_iload_n (k9 := 2) (by decide +kernel) rfl rfl
theorem o178_13 : OKp l S b Lx xs dC dI cA 178 13 (s_invV (dv1 12 160 5) [] 3) := ok_invV (dv1_ok vc_RX12_111_12 rfl (by decide) (hXX 160 (by decide))) (by decide +kernel) rfl
theorem o178_14 : OKp l S b Lx xs dC dI cA 178 14 (s_goto 16) := ok_goto (off := 4) (by decide +kernel) (by decide +kernel)
theorem o178_15 : OKp l S b Lx xs dC dI cA 178 15 (s_const (-1)) := ok_iconst (n := -1) (by decide +kernel) (by decide) rfl
theorem o178_16 : OKp l S b Lx xs dC dI cA 178 16 (s_ret) := ok_ret (by decide +kernel) rfl
theorem a178 (hl9 : l.stackTraces = false) : sm_all (OKp l S b Lx xs dC dI cA 178) 0 sc_178 := ⟨o178_0, o178_1, o178_2, o178_3, o178_4, o178_5, o178_6, o178_7, o178_8, o178_9, o178_10, o178_11, o178_12, o178_13, o178_14, o178_15, o178_16, trivial⟩
theorem o179_0 : OKp l S b Lx xs dC dI cA 179 0 (s_aload 0) := ok_aload_n (k9 := 0) (by decide +kernel) rfl rfl
theorem o179_1 : OKp l S b Lx xs dC dI cA 179 1 (s_iload 1) := ok_iload_n (k9 := 1) (by decide +kernel) rfl rfl
theorem o179_2 : OKp l S b Lx xs dC dI cA 179 2 (s_iload 2) := ok_iload_n (k9 := 2) (by decide +kernel) rfl rfl
theorem o179_3 : OKp l S b Lx xs dC dI cA 179 3 (s_invV (dv1 12 176 3) [] 2) := ok_invV (dv1_ok vc_RX12_178_12 rfl (by decide) (hXX 176 (by decide))) (by decide +kernel) rfl
theorem o179_4 : OKp l S b Lx xs dC dI cA 179 4 (s_if (fun x => x = 0) 10) := ok_if_eq (off := 12) (by decide +kernel) (by decide +kernel) rfl
theorem o179_5 : OKp l S b Lx xs dC dI cA 179 5 (s_aload 0) := ok_aload_n (k9 := 0) (by decide +kernel) rfl rfl
theorem o179_6 : OKp l S b Lx xs dC dI cA 179 6 (s_iload 1) := ok_iload_n (k9 := 1) (by decide +kernel) rfl rfl
theorem o179_7 : OKp l S b Lx xs dC dI cA 179 7 (s_iload 2) := ok_iload_n (k9 := 2) (by decide +kernel) rfl rfl
theorem o179_8 : OKp l S b Lx xs dC dI cA 179 8 (s_invV (dv1 12 162 5) [] 2) := ok_invV (dv1_ok vc_RX12_147_12 rfl (by decide) (hXX 162 (by decide))) (by decide +kernel) rfl
theorem o179_9 : OKp l S b Lx xs dC dI cA 179 9 (s_goto 11) := ok_goto (off := 4) (by decide +kernel) (by decide +kernel)
theorem o179_10 : OKp l S b Lx xs dC dI cA 179 10 (s_const (-1)) := ok_iconst (n := -1) (by decide +kernel) (by decide) rfl
theorem o179_11 : OKp l S b Lx xs dC dI cA 179 11 (s_ret) := ok_ret (by decide +kernel) rfl
theorem a179 (hl9 : l.stackTraces = false) : sm_all (OKp l S b Lx xs dC dI cA 179) 0 sc_179 := ⟨o179_0, o179_1, o179_2, o179_3, o179_4, o179_5, o179_6, o179_7, o179_8, o179_9, o179_10, o179_11, trivial⟩
theorem o180_0 : OKp l S b Lx xs dC dI cA 180 0 (s_aload 0) := ok_aload_n (k9 := 0) (by decide +kernel) rfl rfl
theorem o180_1 : OKp l S b Lx xs dC dI cA 180 1 (s_iload 1) := ok_iload_n (k9 := 1) (by decide +kernel) rfl rfl
theorem o180_2 : OKp l S b Lx xs dC dI cA 180 2 (s_invV (dv1 12 142 2) [] 1) := ok_invV (dv1_ok vc_RX12_144_12 rfl (by decide) (hXX 142 (by decide))) (by decide +kernel) rfl
theorem o180_3 : OKp l S b Lx xs dC dI cA 180 3 (s_if (fun x => x ≠ 0) 6) := ok_if_ne (off := 5) (by decide +kernel) (by decide +kernel) rfl
theorem o180_4 : OKp l S b Lx xs dC dI cA 180 4 (s_const (-1)) := ok_iconst (n := -1) (by decide +kernel) (by decide) rfl
theorem o180_5 : OKp l S b Lx xs dC dI cA 180 5 (s_ret) := ok_ret (by decide +kernel) rfl
theorem o180_6 : OKp l S b Lx xs dC dI cA 180 6 (s_aload 0) := ok_aload_n (k9 := 0) (by decide +kernel) rfl rfl
theorem o180_7 : OKp l S b Lx xs dC dI cA 180 7 (s_iload 1) := ok_iload_n (k9 := 1) (by decide +kernel) rfl rfl
theorem o180_8 : OKp l S b Lx xs dC dI cA 180 8 (s_invV (dv1 12 173 4) [] 1) := ok_invV (dv1_ok vc_RX12_175_12 rfl (by decide) (hXX 173 (by decide))) (by decide +kernel) rfl
theorem o180_9 : OKp l S b Lx xs dC dI cA 180 9 (s_istore 2) := ok_istore_n (k9 := 2) (by decide +kernel) rfl rfl
theorem o180_10 : OKp l S b Lx xs dC dI cA 180 10 (s_const (0)) := ok_iconst (n := 0) (by decide +kernel) (by decide) rfl
theorem o180_11 : OKp l S b Lx xs dC dI cA 180 11 (s_istore 3) := ok_istore_n (k9 := 3) (by decide +kernel) rfl rfl
theorem o180_12 : OKp l S b Lx xs dC dI cA 180 12 (s_iload 3) := ok_iload_n (k9 := 3) (by decide +kernel) rfl rfl
theorem o180_13 : OKp l S b Lx xs dC dI cA 180 13 (s_aload 0) := ok_aload_n (k9 := 0) (by decide +kernel) rfl rfl
theorem o180_14 : OKp l S b Lx xs dC dI cA 180 14 (s_getR (fun t => t == 12) 0) := ok_getR (by decide +kernel) rfl fd_RX12_9
theorem o180_15 : OKp l S b Lx xs dC dI cA 180 15 (s_const (0)) := ok_iconst (n := 0) (by decide +kernel) (by decide) rfl
theorem o180_16 : OKp l S b Lx xs dC dI cA 180 16 (s_iald) := ok_iald (by decide +kernel) rfl
theorem o180_17 : OKp l S b Lx xs dC dI cA 180 17 (s_icmp (fun x y => y ≤ x) 31) := ok_icmp_ge (off := 26) (by decide +kernel) (by decide +kernel) rfl
theorem o180_18 : OKp l S b Lx xs dC dI cA 180 18 (s_aload 0) := ok_aload_n (k9 := 0) (by decide +kernel) rfl rfl
theorem o180_19 : OKp l S b Lx xs dC dI cA 180 19 (s_iload 3) := ok_iload_n (k9 := 3) (by decide +kernel) rfl rfl
theorem o180_20 : OKp l S b Lx xs dC dI cA 180 20 (s_aload 0) := ok_aload_n (k9 := 0) (by decide +kernel) rfl rfl
theorem o180_21 : OKp l S b Lx xs dC dI cA 180 21 (s_iload 3) := ok_iload_n (k9 := 3) (by decide +kernel) rfl rfl
theorem o180_22 : OKp l S b Lx xs dC dI cA 180 22 (s_invV (dv1 12 144 2) [] 1) := ok_invV (dv1_ok vc_RX12_67_12 rfl (by decide) (hXX 144 (by decide))) (by decide +kernel) rfl
theorem o180_23 : OKp l S b Lx xs dC dI cA 180 23 (s_aload 0) := ok_aload_n (k9 := 0) (by decide +kernel) rfl rfl
theorem o180_24 : OKp l S b Lx xs dC dI cA 180 24 (s_iload 1) := ok_iload_n (k9 := 1) (by decide +kernel) rfl rfl
theorem o180_25 : OKp l S b Lx xs dC dI cA 180 25 (s_iload 3) := ok_iload_n (k9 := 3) (by decide +kernel) rfl rfl
theorem o180_26 : OKp l S b Lx xs dC dI cA 180 26 (s_invV (dv1 12 172 5) [] 2) := ok_invV (dv1_ok vc_RX12_172_12 rfl (by decide) (hXX 172 (by decide))) (by decide +kernel) rfl
theorem o180_27 : OKp l S b Lx xs dC dI cA 180 27 (s_bin g_ior) := ok_ior (by decide +kernel) rfl
theorem o180_28 : OKp l S b Lx xs dC dI cA 180 28 (s_invV (dv1 12 145 3) [] 2) := ok_invV (dv1_ok vc_RX12_104_12 rfl (by decide) (hXX 145 (by decide))) (by decide +kernel) rfl
theorem o180_29 : OKp l S b Lx xs dC dI cA 180 29 (s_iinc 3 (1)) := ok_iinc (n := 1) (by decide +kernel) (by decide) rfl
theorem o180_30 : OKp l S b Lx xs dC dI cA 180 30 (s_goto 12) := ok_goto (off := -30) (by decide +kernel) (by decide +kernel)
theorem o180_31 : OKp l S b Lx xs dC dI cA 180 31 (s_iload 2) := ok_iload_n (k9 := 2) (by decide +kernel) rfl rfl
theorem o180_32 : OKp l S b Lx xs dC dI cA 180 32 (s_ret) := ok_ret (by decide +kernel) rfl
theorem a180 (hl9 : l.stackTraces = false) : sm_all (OKp l S b Lx xs dC dI cA 180) 0 sc_180 := ⟨o180_0, o180_1, o180_2, o180_3, o180_4, o180_5, o180_6, o180_7, o180_8, o180_9, o180_10, o180_11, o180_12, o180_13, o180_14, o180_15, o180_16, o180_17, o180_18, o180_19, o180_20, o180_21, o180_22, o180_23, o180_24, o180_25, o180_26, o180_27, o180_28, o180_29, o180_30, o180_31, o180_32, trivial⟩
theorem o181_0 : OKp l S b Lx xs dC dI cA 181 0 (s_aload 0) := ok_aload_n (k9 := 0) (by decide +kernel) rfl rfl
theorem o181_1 : OKp l S b Lx xs dC dI cA 181 1 (s_iload 1) := ok_iload_n (k9 := 1) (by decide +kernel) rfl rfl
theorem o181_2 : OKp l S b Lx xs dC dI cA 181 2 (s_const (0)) := ok_iconst (n := 0) (by decide +kernel) (by decide) rfl
theorem o181_3 : OKp l S b Lx xs dC dI cA 181 3 (s_invV (dv1 12 168 3) [] 2) := ok_invV (dv1_ok vc_RX12_153_12 rfl (by decide) (hXX 168 (by decide))) (by decide +kernel) rfl
theorem o181_4 : OKp l S b Lx xs dC dI cA 181 4 (s_istore 2) := ok_istore_n (k9 := 2) (by decide +kernel) rfl rfl
theorem o181_5 : OKp l S b Lx xs dC dI cA 181 5 (s_iload 2) := ok_iload_n (k9 := 2) (by decide +kernel) rfl rfl
theorem o181_6 : OKp l S b Lx xs dC dI cA 181 6 (s_if (fun x => x = 0) 9) := ok_if_eq (off := 5) (by decide +kernel) (by decide +kernel) rfl
theorem o181_7 : OKp l S b Lx xs dC dI cA 181 7 (s_iload 2) := ok_iload_n (k9 := 2) (by decide +kernel) rfl rfl
theorem o181_8 : OKp l S b Lx xs dC dI cA 181 8 (s_ret) := ok_ret (by decide +kernel) rfl
theorem o181_9 : OKp l S b Lx xs dC dI cA 181 9 (s_aload 0) := ok_aload_n (k9 := 0) (by decide +kernel) rfl rfl
theorem o181_10 : OKp l S b Lx xs dC dI cA 181 10 (s_getR (fun t => t == 12) 6) := ok_getR (by decide +kernel) rfl fd_RX12_28
theorem o181_11 : OKp l S b Lx xs dC dI cA 181 11 (s_iload 1) := ok_iload_n (k9 := 1) (by decide +kernel) rfl rfl
theorem o181_12 : OKp l S b Lx xs dC dI cA 181 12 (s_iald) := ok_iald (by decide +kernel) rfl
theorem o181_13 : OKp l S b Lx xs dC dI cA 181 13 (s_const (2)) := ok_iconst (n := 2) (by decide +kernel) (by decide) rfl
theorem o181_14 : OKp l S b Lx xs dC dI cA 181 14 (s_dvr g_irem) := ok_irem (by decide +kernel) rfl
theorem o181_15 : OKp l S b Lx xs dC dI cA 181 15 (s_if (fun x => x ≠ 0) 22) := ok_if_ne (off := 14) (by decide +kernel) (by decide +kernel) rfl
theorem o181_16 : OKp l S b Lx xs dC dI cA 181 16 (s_aload 0) := ok_aload_n (k9 := 0) (by decide +kernel) rfl rfl
theorem o181_17 : OKp l S b Lx xs dC dI cA 181 17 (s_getR (fun t => t == 12) 6) := ok_getR (by decide +kernel) rfl fd_RX12_28
theorem o181_18 : OKp l S b Lx xs dC dI cA 181 18 (s_iload 1) := ok_iload_n (k9 := 1) (by decide +kernel) rfl rfl
theorem o181_19 : OKp l S b Lx xs dC dI cA 181 19 (s_iald) := ok_iald (by decide +kernel) rfl
theorem o181_20 : OKp l S b Lx xs dC dI cA 181 20 (s_const (24)) := ok_bipush (n := 24) (by decide +kernel) (by decide) rfl
theorem o181_21 : OKp l S b Lx xs dC dI cA 181 21 (s_icmp (fun x y => x ≤ y) 24) := ok_icmp_le (off := 6) (by decide +kernel) (by decide +kernel) rfl
theorem o181_22 : OKp l S b Lx xs dC dI cA 181 22 (s_const (-13)) := ok_bipush (n := -13) (by decide +kernel) (by decide) rfl
theorem o181_23 : OKp l S b Lx xs dC dI cA 181 23 (s_ret) := ok_ret (by decide +kernel) rfl
theorem o181_24 : OKp l S b Lx xs dC dI cA 181 24 (s_const (0)) := ok_iconst (n := 0) (by decide +kernel) (by decide) rfl
theorem o181_25 : OKp l S b Lx xs dC dI cA 181 25 (s_istore 3) := ok_istore_n (k9 := 3) (by decide +kernel) rfl rfl
theorem o181_26 : OKp l S b Lx xs dC dI cA 181 26 (s_iload 3) := ok_iload_n (k9 := 3) (by decide +kernel) rfl rfl
theorem o181_27 : OKp l S b Lx xs dC dI cA 181 27 (s_aload 0) := ok_aload_n (k9 := 0) (by decide +kernel) rfl rfl
theorem o181_28 : OKp l S b Lx xs dC dI cA 181 28 (s_getR (fun t => t == 12) 6) := ok_getR (by decide +kernel) rfl fd_RX12_28
theorem o181_29 : OKp l S b Lx xs dC dI cA 181 29 (s_iload 1) := ok_iload_n (k9 := 1) (by decide +kernel) rfl rfl
theorem o181_30 : OKp l S b Lx xs dC dI cA 181 30 (s_iald) := ok_iald (by decide +kernel) rfl
theorem o181_31 : OKp l S b Lx xs dC dI cA 181 31 (s_icmp (fun x y => y ≤ x) 57) := ok_icmp_ge (off := 43) (by decide +kernel) (by decide +kernel) rfl
theorem o181_32 : OKp l S b Lx xs dC dI cA 181 32 (s_aload 0) := ok_aload_n (k9 := 0) (by decide +kernel) rfl rfl
theorem o181_33 : OKp l S b Lx xs dC dI cA 181 33 (s_aload 0) := ok_aload_n (k9 := 0) (by decide +kernel) rfl rfl
theorem o181_34 : OKp l S b Lx xs dC dI cA 181 34 (s_getR (fun t => t == 12) 7) := ok_getR (by decide +kernel) rfl fd_RX12_31
theorem o181_35 : OKp l S b Lx xs dC dI cA 181 35 (s_const (100)) := ok_bipush (n := 100) (by decide +kernel) (by decide) rfl
theorem o181_36 : OKp l S b Lx xs dC dI cA 181 36 (s_iload 1) := ok_iload_n (k9 := 1) (by decide +kernel) rfl rfl
theorem o181_37 : OKp l S b Lx xs dC dI cA 181 37 (s_bin g_imul) := ok_imul (by decide +kernel) rfl
theorem o181_38 : OKp l S b Lx xs dC dI cA 181 38 (s_iload 3) := ok_iload_n (k9 := 3) (by decide +kernel) rfl rfl
theorem o181_39 : OKp l S b Lx xs dC dI cA 181 39 (s_bin g_iadd) := ok_iadd (by decide +kernel) rfl
theorem o181_40 : OKp l S b Lx xs dC dI cA 181 40 (s_iald) := ok_iald (by decide +kernel) rfl
theorem o181_41 : OKp l S b Lx xs dC dI cA 181 41 (s_aload 0) := ok_aload_n (k9 := 0) (by decide +kernel) rfl rfl
theorem o181_42 : OKp l S b Lx xs dC dI cA 181 42 (s_getR (fun t => t == 12) 7) := ok_getR (by decide +kernel) rfl fd_RX12_31
theorem o181_43 : OKp l S b Lx xs dC dI cA 181 43 (s_const (100)) := ok_bipush (n := 100) (by decide +kernel) (by decide) rfl
theorem o181_44 : OKp l S b Lx xs dC dI cA 181 44 (s_iload 1) := ok_iload_n (k9 := 1) (by decide +kernel) rfl rfl
theorem o181_45 : OKp l S b Lx xs dC dI cA 181 45 (s_bin g_imul) := ok_imul (by decide +kernel) rfl
theorem o181_46 : OKp l S b Lx xs dC dI cA 181 46 (s_iload 3) := ok_iload_n (k9 := 3) (by decide +kernel) rfl rfl
theorem o181_47 : OKp l S b Lx xs dC dI cA 181 47 (s_bin g_iadd) := ok_iadd (by decide +kernel) rfl
theorem o181_48 : OKp l S b Lx xs dC dI cA 181 48 (s_const (1)) := ok_iconst (n := 1) (by decide +kernel) (by decide) rfl
theorem o181_49 : OKp l S b Lx xs dC dI cA 181 49 (s_bin g_iadd) := ok_iadd (by decide +kernel) rfl
theorem o181_50 : OKp l S b Lx xs dC dI cA 181 50 (s_iald) := ok_iald (by decide +kernel) rfl
theorem o181_51 : OKp l S b Lx xs dC dI cA 181 51 (s_invV (dv1 12 176 3) [] 2) := ok_invV (dv1_ok vc_RX12_178_12 rfl (by decide) (hXX 176 (by decide))) (by decide +kernel) rfl
theorem o181_52 : OKp l S b Lx xs dC dI cA 181 52 (s_if (fun x => x ≠ 0) 55) := ok_if_ne (off := 6) (by decide +kernel) (by decide +kernel) rfl
theorem o181_53 : OKp l S b Lx xs dC dI cA 181 53 (s_const (-13)) := ok_bipush (n := -13) (by decide +kernel) (by decide) rfl
theorem o181_54 : OKp l S b Lx xs dC dI cA 181 54 (s_ret) := ok_ret (by decide +kernel) rfl
theorem o181_55 : OKp l S b Lx xs dC dI cA 181 55 (s_iinc 3 (2)) := ok_iinc (n := 2) (by decide +kernel) (by decide) rfl
theorem o181_56 : OKp l S b Lx xs dC dI cA 181 56 (s_goto 26) := ok_goto (off := -47) (by decide +kernel) (by decide +kernel)
theorem o181_57 : OKp l S b Lx xs dC dI cA 181 57 (s_const (0)) := ok_iconst (n := 0) (by decide +kernel) (by decide) rfl
theorem o181_58 : OKp l S b Lx xs dC dI cA 181 58 (s_ret) := ok_ret (by decide +kernel) rfl
theorem a181 (hl9 : l.stackTraces = false) : sm_all (OKp l S b Lx xs dC dI cA 181) 0 sc_181 := ⟨o181_0, o181_1, o181_2, o181_3, o181_4, o181_5, o181_6, o181_7, o181_8, o181_9, o181_10, o181_11, o181_12, o181_13, o181_14, o181_15, o181_16, o181_17, o181_18, o181_19, o181_20, o181_21, o181_22, o181_23, o181_24, o181_25, o181_26, o181_27, o181_28, o181_29, o181_30, o181_31, o181_32, o181_33, o181_34, o181_35, o181_36, o181_37, o181_38, o181_39, o181_40, o181_41, o181_42, o181_43, o181_44, o181_45, o181_46, o181_47, o181_48, o181_49, o181_50, o181_51, o181_52, o181_53, o181_54, o181_55, o181_56, o181_57, o181_58, trivial⟩
theorem o182_0 : OKp l S b Lx xs dC dI cA 182 0 (s_aload 0) := ok_aload_n (k9 := 0) (by decide +kernel) rfl rfl
theorem o182_1 : OKp l S b Lx xs dC dI cA 182 1 (s_iload 1) := ok_iload_n (k9 := 1) (by decide +kernel) rfl rfl
theorem o182_2 : OKp l S b Lx xs dC dI cA 182 2 (s_const (0)) := ok_iconst (n := 0) (by decide +kernel) (by decide) rfl
theorem o182_3 : OKp l S b Lx xs dC dI cA 182 3 (s_invV (dv1 12 168 3) [] 2) := ok_invV (dv1_ok vc_RX12_153_12 rfl (by decide) (hXX 168 (by decide))) (by decide +kernel) rfl
theorem o182_4 : OKp l S b Lx xs dC dI cA 182 4 (s_istore 2) := ok_istore_n (k9 := 2) (by decide +kernel) rfl rfl
theorem o182_5 : OKp l S b Lx xs dC dI cA 182 5 (s_iload 2) := ok_iload_n (k9 := 2) (by decide +kernel) rfl rfl
theorem o182_6 : OKp l S b Lx xs dC dI cA 182 6 (s_if (fun x => x = 0) 9) := ok_if_eq (off := 5) (by decide +kernel) (by decide +kernel) rfl
theorem o182_7 : OKp l S b Lx xs dC dI cA 182 7 (s_iload 2) := ok_iload_n (k9 := 2) (by decide +kernel) rfl rfl
theorem o182_8 : OKp l S b Lx xs dC dI cA 182 8 (s_ret) := ok_ret (by decide +kernel) rfl
theorem o182_9 : OKp l S b Lx xs dC dI cA 182 9 (s_aload 0) := ok_aload_n (k9 := 0) (by decide +kernel) rfl rfl
theorem o182_10 : OKp l S b Lx xs dC dI cA 182 10 (s_getR (fun t => t == 12) 6) := ok_getR (by decide +kernel) rfl fd_RX12_28
theorem o182_11 : OKp l S b Lx xs dC dI cA 182 11 (s_iload 1) := ok_iload_n (k9 := 1) (by decide +kernel) rfl rfl
theorem o182_12 : OKp l S b Lx xs dC dI cA 182 12 (s_iald) := ok_iald (by decide +kernel) rfl
theorem o182_13 : OKp l S b Lx xs dC dI cA 182 13 (s_const (6)) := ok_bipush (n := 6) (by decide +kernel) (by decide) rfl
theorem o182_14 : OKp l S b Lx xs dC dI cA 182 14 (s_icmp (fun x y => x ≤ y) 17) := ok_icmp_le (off := 6) (by decide +kernel) (by decide +kernel) rfl
theorem o182_15 : OKp l S b Lx xs dC dI cA 182 15 (s_const (-13)) := ok_bipush (n := -13) (by decide +kernel) (by decide) rfl
theorem o182_16 : OKp l S b Lx xs dC dI cA 182 16 (s_ret) := ok_ret (by decide +kernel) rfl
theorem o182_17 : OKp l S b Lx xs dC dI cA 182 17 (s_const (0)) := ok_iconst (n := 0) (by decide +kernel) (by decide) rfl
theorem o182_18 : OKp l S b Lx xs dC dI cA 182 18 (s_istore 3) := ok_istore_n (k9 := 3) (by decide +kernel) rfl rfl
theorem o182_19 : OKp l S b Lx xs dC dI cA 182 19 (s_iload 3) := ok_iload_n (k9 := 3) (by decide +kernel) rfl rfl
theorem o182_20 : OKp l S b Lx xs dC dI cA 182 20 (s_aload 0) := ok_aload_n (k9 := 0) (by decide +kernel) rfl rfl
theorem o182_21 : OKp l S b Lx xs dC dI cA 182 21 (s_getR (fun t => t == 12) 6) := ok_getR (by decide +kernel) rfl fd_RX12_28
theorem o182_22 : OKp l S b Lx xs dC dI cA 182 22 (s_iload 1) := ok_iload_n (k9 := 1) (by decide +kernel) rfl rfl
theorem o182_23 : OKp l S b Lx xs dC dI cA 182 23 (s_iald) := ok_iald (by decide +kernel) rfl
theorem o182_24 : OKp l S b Lx xs dC dI cA 182 24 (s_icmp (fun x y => y ≤ x) 40) := ok_icmp_ge (off := 30) (by decide +kernel) (by decide +kernel) rfl
theorem o182_25 : OKp l S b Lx xs dC dI cA 182 25 (s_aload 0) := ok_aload_n (k9 := 0) (by decide +kernel) rfl rfl
theorem o182_26 : OKp l S b Lx xs dC dI cA 182 26 (s_aload 0) := ok_aload_n (k9 := 0) (by decide +kernel) rfl rfl
theorem o182_27 : OKp l S b Lx xs dC dI cA 182 27 (s_getR (fun t => t == 12) 7) := ok_getR (by decide +kernel) rfl fd_RX12_31
theorem o182_28 : OKp l S b Lx xs dC dI cA 182 28 (s_const (100)) := ok_bipush (n := 100) (by decide +kernel) (by decide) rfl
theorem o182_29 : OKp l S b Lx xs dC dI cA 182 29 (s_iload 1) := ok_iload_n (k9 := 1) (by decide +kernel) rfl rfl
theorem o182_30 : OKp l S b Lx xs dC dI cA 182 30 (s_bin g_imul) := ok_imul (by decide +kernel) rfl
theorem o182_31 : OKp l S b Lx xs dC dI cA 182 31 (s_iload 3) := ok_iload_n (k9 := 3) (by decide +kernel) rfl rfl
theorem o182_32 : OKp l S b Lx xs dC dI cA 182 32 (s_bin g_iadd) := ok_iadd (by decide +kernel) rfl
theorem o182_33 : OKp l S b Lx xs dC dI cA 182 33 (s_iald) := ok_iald (by decide +kernel) rfl
theorem o182_34 : OKp l S b Lx xs dC dI cA 182 34 (s_invV (dv1 12 142 2) [] 1) := ok_invV (dv1_ok vc_RX12_144_12 rfl (by decide) (hXX 142 (by decide))) (by decide +kernel) rfl
theorem o182_35 : OKp l S b Lx xs dC dI cA 182 35 (s_if (fun x => x ≠ 0) 38) := ok_if_ne (off := 6) (by decide +kernel) (by decide +kernel) rfl
theorem o182_36 : OKp l S b Lx xs dC dI cA 182 36 (s_const (-13)) := ok_bipush (n := -13) (by decide +kernel) (by decide) rfl
theorem o182_37 : OKp l S b Lx xs dC dI cA 182 37 (s_ret) := ok_ret (by decide +kernel) rfl
theorem o182_38 : OKp l S b Lx xs dC dI cA 182 38 (s_iinc 3 (1)) := ok_iinc (n := 1) (by decide +kernel) (by decide) rfl
theorem o182_39 : OKp l S b Lx xs dC dI cA 182 39 (s_goto 19) := ok_goto (off := -34) (by decide +kernel) (by decide +kernel)
theorem o182_40 : OKp l S b Lx xs dC dI cA 182 40 (s_const (0)) := ok_iconst (n := 0) (by decide +kernel) (by decide) rfl
theorem o182_41 : OKp l S b Lx xs dC dI cA 182 41 (s_ret) := ok_ret (by decide +kernel) rfl
theorem a182 (hl9 : l.stackTraces = false) : sm_all (OKp l S b Lx xs dC dI cA 182) 0 sc_182 := ⟨o182_0, o182_1, o182_2, o182_3, o182_4, o182_5, o182_6, o182_7, o182_8, o182_9, o182_10, o182_11, o182_12, o182_13, o182_14, o182_15, o182_16, o182_17, o182_18, o182_19, o182_20, o182_21, o182_22, o182_23, o182_24, o182_25, o182_26, o182_27, o182_28, o182_29, o182_30, o182_31, o182_32, o182_33, o182_34, o182_35, o182_36, o182_37, o182_38, o182_39, o182_40, o182_41, trivial⟩
theorem o183_0 : OKp l S b Lx xs dC dI cA 183 0 (s_aload 0) := ok_aload_n (k9 := 0) (by decide +kernel) rfl rfl
theorem o183_1 : OKp l S b Lx xs dC dI cA 183 1 (s_getR (fun t => t == 12) 0) := ok_getR (by decide +kernel) rfl fd_RX12_9
theorem o183_2 : OKp l S b Lx xs dC dI cA 183 2 (s_aload 0) := ok_aload_n (k9 := 0) (by decide +kernel) rfl rfl
theorem o183_3 : OKp l S b Lx xs dC dI cA 183 3 (s_getR (fun t => t == 12) 3) := ok_getR (by decide +kernel) rfl fd_RX12_19
theorem o183_4 : OKp l S b Lx xs dC dI cA 183 4 (s_invS 152 2 3) := ok_invS rfl rfl (by decide) (hXX 152 (by decide)) w_1029 w_1030 w_61 c_152 (by decide +kernel) (by decide +kernel) rfl
theorem o183_5 : OKp l S b Lx xs dC dI cA 183 5 (s_vret) := ok_vret (by decide +kernel) rfl
theorem a183 (hl9 : l.stackTraces = false) : sm_all (OKp l S b Lx xs dC dI cA 183) 0 sc_183 := ⟨o183_0, o183_1, o183_2, o183_3, o183_4, o183_5, trivial⟩
theorem o184_0 : OKp l S b Lx xs dC dI cA 184 0 (s_aload 0) := ok_aload_n (k9 := 0) (by decide +kernel) rfl rfl
theorem o184_1 : OKp l S b Lx xs dC dI cA 184 1 (s_getR (fun t => t == 12) 3) := ok_getR (by decide +kernel) rfl fd_RX12_19
theorem o184_2 : OKp l S b Lx xs dC dI cA 184 2 (s_aload 0) := ok_aload_n (k9 := 0) (by decide +kernel) rfl rfl
theorem o184_3 : OKp l S b Lx xs dC dI cA 184 3 (s_getR (fun t => t == 12) 0) := ok_getR (by decide +kernel) rfl fd_RX12_9
theorem o184_4 : OKp l S b Lx xs dC dI cA 184 4 (s_invS 152 2 3) := ok_invS rfl rfl (by decide) (hXX 152 (by decide)) w_1029 w_1030 w_61 c_152 (by decide +kernel) (by decide +kernel) rfl
theorem o184_5 : OKp l S b Lx xs dC dI cA 184 5 (s_vret) := ok_vret (by decide +kernel) rfl
theorem a184 (hl9 : l.stackTraces = false) : sm_all (OKp l S b Lx xs dC dI cA 184) 0 sc_184 := ⟨o184_0, o184_1, o184_2, o184_3, o184_4, o184_5, trivial⟩
theorem o185_0 : OKp l S b Lx xs dC dI cA 185 0 (s_const (0)) := ok_iconst (n := 0) (by decide +kernel) (by decide) rfl
theorem o185_1 : OKp l S b Lx xs dC dI cA 185 1 (s_istore 3) := ok_istore_n (k9 := 3) (by decide +kernel) rfl rfl
theorem o185_2 : OKp l S b Lx xs dC dI cA 185 2 (s_const (0)) := ok_iconst (n := 0) (by decide +kernel) (by decide) rfl
theorem o185_3 : OKp l S b Lx xs dC dI cA 185 3 (s_istore 4) := ok_istore (by decide +kernel) rfl
theorem o185_4 : OKp l S b Lx xs dC dI cA 185 4 (s_iload 4) := ok_iload (by decide +kernel) rfl
theorem o185_5 : OKp l S b Lx xs dC dI cA 185 5 (s_aload 0) := ok_aload_n (k9 := 0) (by decide +kernel) rfl rfl
theorem o185_6 : OKp l S b Lx xs dC dI cA 185 6 (s_getR (fun t => t == 12) 6) := ok_getR (by decide +kernel) rfl fd_RX12_28
theorem o185_7 : OKp l S b Lx xs dC dI cA 185 7 (s_iload 1) := ok_iload_n (k9 := 1) (by decide +kernel) rfl rfl
theorem o185_8 : OKp l S b Lx xs dC dI cA 185 8 (s_iald) := ok_iald (by decide +kernel) rfl
theorem o185_9 : OKp l S b Lx xs dC dI cA 185 9 (s_icmp (fun x y => y ≤ x) 42) := ok_icmp_ge (off := 56) (by decide +kernel) (by decide +kernel) rfl
theorem o185_10 : OKp l S b Lx xs dC dI cA 185 10 (s_aload 0) := ok_aload_n (k9 := 0) (by decide +kernel) rfl rfl
theorem o185_11 : OKp l S b Lx xs dC dI cA 185 11 (s_getR (fun t => t == 12) 7) := ok_getR (by decide +kernel) rfl fd_RX12_31
theorem o185_12 : OKp l S b Lx xs dC dI cA 185 12 (s_const (100)) := ok_bipush (n := 100) (by decide +kernel) (by decide) rfl
theorem o185_13 : OKp l S b Lx xs dC dI cA 185 13 (s_iload 1) := ok_iload_n (k9 := 1) (by decide +kernel) rfl rfl
theorem o185_14 : OKp l S b Lx xs dC dI cA 185 14 (s_bin g_imul) := ok_imul (by decide +kernel) rfl
theorem o185_15 : OKp l S b Lx xs dC dI cA 185 15 (s_iload 4) := ok_iload (by decide +kernel) rfl
theorem o185_16 : OKp l S b Lx xs dC dI cA 185 16 (s_bin g_iadd) := ok_iadd (by decide +kernel) rfl
theorem o185_17 : OKp l S b Lx xs dC dI cA 185 17 (s_iald) := ok_iald (by decide +kernel) rfl
theorem o185_18 : OKp l S b Lx xs dC dI cA 185 18 (s_istore 5) := ok_istore (by decide +kernel) rfl
theorem o185_19 : OKp l S b Lx xs dC dI cA 185 19 (s_iload 3) := ok_iload_n (k9 := 3) (by decide +kernel) rfl rfl
theorem o185_20 : OKp l S b Lx xs dC dI cA 185 20 (s_iload 5) := ok_iload (by decide +kernel) rfl
theorem o185_21 : OKp l S b Lx xs dC dI cA 185 21 (s_iload 2) := ok_iload_n (k9 := 2) (by decide +kernel) rfl rfl
theorem o185_22 : OKp l S b Lx xs dC dI cA 185 22 (s_icmp (fun x y => x ≠ y) 25) := ok_icmp_ne (off := 7) (by decide +kernel) (by decide +kernel) rfl
theorem o185_23 : OKp l S b Lx xs dC dI cA 185 23 (s_const (0)) := ok_iconst (n := 0) (by decide +kernel) (by decide) rfl
theorem o185_24 : OKp l S b Lx xs dC dI cA 185 24 (s_goto 38) := ok_goto (off := 23) (by decide +kernel) (by decide +kernel)
theorem o185_25 : OKp l S b Lx xs dC dI cA 185 25 (s_aload 0) := ok_aload_n (k9 := 0) (by decide +kernel) rfl rfl
theorem o185_26 : OKp l S b Lx xs dC dI cA 185 26 (s_iload 5) := ok_iload (by decide +kernel) rfl
theorem o185_27 : OKp l S b Lx xs dC dI cA 185 27 (s_aload 0) := ok_aload_n (k9 := 0) (by decide +kernel) rfl rfl
theorem o185_28 : OKp l S b Lx xs dC dI cA 185 28 (s_getR (fun t => t == 12) 7) := ok_getR (by decide +kernel) rfl fd_RX12_31
theorem o185_29 : OKp l S b Lx xs dC dI cA 185 29 (s_const (100)) := ok_bipush (n := 100) (by decide +kernel) (by decide) rfl
theorem o185_30 : OKp l S b Lx xs dC dI cA 185 30 (s_iload 1) := ok_iload_n (k9 := 1) (by decide +kernel) rfl rfl
theorem o185_31 : OKp l S b Lx xs dC dI cA 185 31 (s_bin g_imul) := ok_imul (by decide +kernel) rfl
theorem o185_32 : OKp l S b Lx xs dC dI cA 185 32 (s_iload 4) := ok_iload (by decide +kernel) rfl
theorem o185_33 : OKp l S b Lx xs dC dI cA 185 33 (s_bin g_iadd) := ok_iadd (by decide +kernel) rfl
theorem o185_34 : OKp l S b Lx xs dC dI cA 185 34 (s_const (1)) := ok_iconst (n := 1) (by decide +kernel) (by decide) rfl
theorem o185_35 : OKp l S b Lx xs dC dI cA 185 35 (s_bin g_iadd) := ok_iadd (by decide +kernel) rfl
theorem o185_36 : OKp l S b Lx xs dC dI cA 185 36 (s_iald) := ok_iald (by decide +kernel) rfl
theorem o185_37 : OKp l S b Lx xs dC dI cA 185 37 (s_invV (dv1 12 162 5) [] 2) := ok_invV (dv1_ok vc_RX12_147_12 rfl (by decide) (hXX 162 (by decide))) (by decide +kernel) rfl
theorem o185_38 : OKp l S b Lx xs dC dI cA 185 38 (s_bin g_iadd) := ok_iadd (by decide +kernel) rfl
theorem o185_39 : OKp l S b Lx xs dC dI cA 185 39 (s_istore 3) := ok_istore_n (k9 := 3) (by decide +kernel) rfl rfl
theorem o185_40 : OKp l S b Lx xs dC dI cA 185 40 (s_iinc 4 (2)) := ok_iinc (n := 2) (by decide +kernel) (by decide) rfl
theorem o185_41 : OKp l S b Lx xs dC dI cA 185 41 (s_goto 4) := ok_goto (off := -61) (by decide +kernel) (by decide +kernel)
theorem o185_42 : OKp l S b Lx xs dC dI cA 185 42 (s_iload 3) := ok_iload_n (k9 := 3) (by decide +kernel) rfl rfl
theorem o185_43 : OKp l S b Lx xs dC dI cA 185 43 (s_ret) := ok_ret (by decide +kernel) rfl
theorem a185 (hl9 : l.stackTraces = false) : sm_all (OKp l S b Lx xs dC dI cA 185) 0 sc_185 := ⟨o185_0, o185_1, o185_2, o185_3, o185_4, o185_5, o185_6, o185_7, o185_8, o185_9, o185_10, o185_11, o185_12, o185_13, o185_14, o185_15, o185_16, o185_17, o185_18, o185_19, o185_20, o185_21, o185_22, o185_23, o185_24, o185_25, o185_26, o185_27, o185_28, o185_29, o185_30, o185_31, o185_32, o185_33, o185_34, o185_35, o185_36, o185_37, o185_38, o185_39, o185_40, o185_41, o185_42, o185_43, trivial⟩
end SMOKS
