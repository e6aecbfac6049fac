section SMOKS
variable {l : Launch} {S b Lx : Nat} {xs : Nat → Int32} {dC : Nat → ClassId} {dI : Nat → Nat → Nat} {cA : Nat → ClassId}
theorem o186_0 : OKp l S b Lx xs dC dI cA 186 0 (s_const (0)) := ok_iconst (n := 0) (by decide +kernel) (by decide) rfl
theorem o186_1 : OKp l S b Lx xs dC dI cA 186 1 (s_istore 1) := ok_istore_n (k9 := 1) (by decide +kernel) rfl rfl
theorem o186_2 : OKp l S b Lx xs dC dI cA 186 2 (s_const (0)) := ok_iconst (n := 0) (by decide +kernel) (by decide) rfl
theorem o186_3 : OKp l S b Lx xs dC dI cA 186 3 (s_istore 2) := ok_istore_n (k9 := 2) (by decide +kernel) rfl rfl
theorem o186_4 : OKp l S b Lx xs dC dI cA 186 4 (s_iload 2) := ok_iload_n (k9 := 2) (by decide +kernel) rfl rfl
theorem o186_5 : OKp l S b Lx xs dC dI cA 186 5 (s_aload 0) := ok_aload_n (k9 := 0) (by decide +kernel) rfl rfl
theorem o186_6 : OKp l S b Lx xs dC dI cA 186 6 (s_getR (fun t => t == 12) 0) := ok_getR (by decide +kernel) rfl fd_RX12_9
theorem o186_7 : OKp l S b Lx xs dC dI cA 186 7 (s_const (0)) := ok_iconst (n := 0) (by decide +kernel) (by decide) rfl
theorem o186_8 : OKp l S b Lx xs dC dI cA 186 8 (s_iald) := ok_iald (by decide +kernel) rfl
theorem o186_9 : OKp l S b Lx xs dC dI cA 186 9 (s_icmp (fun x y => y ≤ x) 19) := ok_icmp_ge (off := 20) (by decide +kernel) (by decide +kernel) rfl
theorem o186_10 : OKp l S b Lx xs dC dI cA 186 10 (s_iload 1) := ok_iload_n (k9 := 1) (by decide +kernel) rfl rfl
theorem o186_11 : OKp l S b Lx xs dC dI cA 186 11 (s_aload 0) := ok_aload_n (k9 := 0) (by decide +kernel) rfl rfl
theorem o186_12 : OKp l S b Lx xs dC dI cA 186 12 (s_iload 2) := ok_iload_n (k9 := 2) (by decide +kernel) rfl rfl
theorem o186_13 : OKp l S b Lx xs dC dI cA 186 13 (s_invV (dv1 12 144 2) [] 1) := ok_invV (dv1_ok vc_RX12_67_12 rfl (by decide) (hXX 144 (by decide))) (by decide +kernel) rfl
theorem o186_14 : OKp l S b Lx xs dC dI cA 186 14 (s_invS 153 1 3) := ok_invS rfl rfl (by decide) (hXX 153 (by decide)) w_1100 w_1101 w_61 c_153 (by decide +kernel) (by decide +kernel) rfl
theorem o186_15 : OKp l S b Lx xs dC dI cA 186 15 (s_bin g_iadd) := ok_iadd (by decide +kernel) rfl
theorem o186_16 : OKp l S b Lx xs dC dI cA 186 16 (s_istore 1) := ok_istore_n (k9 := 1) (by decide +kernel) rfl rfl
theorem o186_17 : OKp l S b Lx xs dC dI cA 186 17 (s_iinc 2 (1)) := ok_iinc (n := 1) (by decide +kernel) (by decide) rfl
theorem o186_18 : OKp l S b Lx xs dC dI cA 186 18 (s_goto 4) := ok_goto (off := -24) (by decide +kernel) (by decide +kernel)
theorem o186_19 : OKp l S b Lx xs dC dI cA 186 19 (s_iload 1) := ok_iload_n (k9 := 1) (by decide +kernel) rfl rfl
theorem o186_20 : OKp l S b Lx xs dC dI cA 186 20 (s_ret) := ok_ret (by decide +kernel) rfl
theorem a186 (hl9 : l.stackTraces = false) : sm_all (OKp l S b Lx xs dC dI cA 186) 0 sc_186 := ⟨o186_0, o186_1, o186_2, o186_3, o186_4, o186_5, o186_6, o186_7, o186_8, o186_9, o186_10, o186_11, o186_12, o186_13, o186_14, o186_15, o186_16, o186_17, o186_18, o186_19, o186_20, trivial⟩
theorem o187_0 : OKp l S b Lx xs dC dI cA 187 0 (s_const (0)) := ok_iconst (n := 0) (by decide +kernel) (by decide) rfl
theorem o187_1 : OKp l S b Lx xs dC dI cA 187 1 (s_istore 1) := ok_istore_n (k9 := 1) (by decide +kernel) rfl rfl
theorem o187_2 : OKp l S b Lx xs dC dI cA 187 2 (s_const (0)) := ok_iconst (n := 0) (by decide +kernel) (by decide) rfl
theorem o187_3 : OKp l S b Lx xs dC dI cA 187 3 (s_istore 2) := ok_istore_n (k9 := 2) (by decide +kernel) rfl rfl
theorem o187_4 : OKp l S b Lx xs dC dI cA 187 4 (s_iload 2) := ok_iload_n (k9 := 2) (by decide +kernel) rfl rfl
theorem o187_5 : OKp l S b Lx xs dC dI cA 187 5 (s_aload 0) := ok_aload_n (k9 := 0) (by decide +kernel) rfl rfl
theorem o187_6 : OKp l S b Lx xs dC dI cA 187 6 (s_getR (fun t => t == 12) 0) := ok_getR (by decide +kernel) rfl fd_RX12_9
theorem o187_7 : OKp l S b Lx xs dC dI cA 187 7 (s_const (0)) := ok_iconst (n := 0) (by decide +kernel) (by decide) rfl
theorem o187_8 : OKp l S b Lx xs dC dI cA 187 8 (s_iald) := ok_iald (by decide +kernel) rfl
theorem o187_9 : OKp l S b Lx xs dC dI cA 187 9 (s_icmp (fun x y => y ≤ x) 18) := ok_icmp_ge (off := 17) (by decide +kernel) (by decide +kernel) rfl
theorem o187_10 : OKp l S b Lx xs dC dI cA 187 10 (s_iload 1) := ok_iload_n (k9 := 1) (by decide +kernel) rfl rfl
theorem o187_11 : OKp l S b Lx xs dC dI cA 187 11 (s_aload 0) := ok_aload_n (k9 := 0) (by decide +kernel) rfl rfl
theorem o187_12 : OKp l S b Lx xs dC dI cA 187 12 (s_iload 2) := ok_iload_n (k9 := 2) (by decide +kernel) rfl rfl
theorem o187_13 : OKp l S b Lx xs dC dI cA 187 13 (s_invV (dv1 12 143 2) [] 1) := ok_invV (dv1_ok vc_RX12_63_12 rfl (by decide) (hXX 143 (by decide))) (by decide +kernel) rfl
theorem o187_14 : OKp l S b Lx xs dC dI cA 187 14 (s_bin g_iadd) := ok_iadd (by decide +kernel) rfl
theorem o187_15 : OKp l S b Lx xs dC dI cA 187 15 (s_istore 1) := ok_istore_n (k9 := 1) (by decide +kernel) rfl rfl
theorem o187_16 : OKp l S b Lx xs dC dI cA 187 16 (s_iinc 2 (1)) := ok_iinc (n := 1) (by decide +kernel) (by decide) rfl
theorem o187_17 : OKp l S b Lx xs dC dI cA 187 17 (s_goto 4) := ok_goto (off := -21) (by decide +kernel) (by decide +kernel)
theorem o187_18 : OKp l S b Lx xs dC dI cA 187 18 (s_iload 1) := ok_iload_n (k9 := 1) (by decide +kernel) rfl rfl
theorem o187_19 : OKp l S b Lx xs dC dI cA 187 19 (s_ret) := ok_ret (by decide +kernel) rfl
theorem a187 (hl9 : l.stackTraces = false) : sm_all (OKp l S b Lx xs dC dI cA 187) 0 sc_187 := ⟨o187_0, o187_1, o187_2, o187_3, o187_4, o187_5, o187_6, o187_7, o187_8, o187_9, o187_10, o187_11, o187_12, o187_13, o187_14, o187_15, o187_16, o187_17, o187_18, o187_19, trivial⟩
theorem o188_0 : OKp l S b Lx xs dC dI cA 188 0 (s_iload 1) := ok_iload_n (k9 := 1) (by decide +kernel) rfl rfl
theorem o188_1 : OKp l S b Lx xs dC dI cA 188 1 (s_invS 140 1 1) := ok_invS rfl rfl (by decide) (hXX 140 (by decide)) w_1008 w_1009 w_61 c_140 (by decide +kernel) (by decide +kernel) rfl
theorem o188_2 : OKp l S b Lx xs dC dI cA 188 2 (s_if (fun x => x = 0) 9) := ok_if_eq (off := 13) (by decide +kernel) (by decide +kernel) rfl
theorem o188_3 : OKp l S b Lx xs dC dI cA 188 3 (s_iload 2) := ok_iload_n (k9 := 2) (by decide +kernel) rfl rfl
theorem o188_4 : OKp l S b Lx xs dC dI cA 188 4 (s_i2l) := ok_i2l (by decide +kernel) rfl
theorem o188_5 : OKp l S b Lx xs dC dI cA 188 5 (s_lconst 0) := ok_lconst (n := 0) (by decide +kernel) (by decide) rfl
theorem o188_6 : OKp l S b Lx xs dC dI cA 188 6 (s_lconst 1) := ok_lconst (n := 1) (by decide +kernel) (by decide) rfl
theorem o188_7 : OKp l S b Lx xs dC dI cA 188 7 (s_invS 139 3 6) := ok_invS rfl rfl (by decide) (hXX 139 (by decide)) w_1012 w_1013 w_61 c_139 (by decide +kernel) (by decide +kernel) rfl
theorem o188_8 : OKp l S b Lx xs dC dI cA 188 8 (s_if (fun x => x ≠ 0) 11) := ok_if_ne (off := 5) (by decide +kernel) (by decide +kernel) rfl
theorem o188_9 : OKp l S b Lx xs dC dI cA 188 9 (s_const (-1)) := ok_iconst (n := -1) (by decide +kernel) (by decide) rfl
theorem o188_10 : OKp l S b Lx xs dC dI cA 188 10 (s_ret) := ok_ret (by decide +kernel) rfl
theorem o188_11 : OKp l S b Lx xs dC dI cA 188 11 (s_aload 0) := ok_aload_n (k9 := 0) (by decide +kernel) rfl rfl
theorem o188_12 : OKp l S b Lx xs dC dI cA 188 12 (s_iload 1) := ok_iload_n (k9 := 1) (by decide +kernel) rfl rfl
theorem o188_13 : OKp l S b Lx xs dC dI cA 188 13 (s_invV (dv1 12 181 4) [] 1) := ok_invV (dv1_ok vc_RX12_181_12 rfl (by decide) (hXX 181 (by decide))) (by decide +kernel) rfl
theorem o188_14 : OKp l S b Lx xs dC dI cA 188 14 (s_istore 3) := ok_istore_n (k9 := 3) (by decide +kernel) rfl rfl
theorem o188_15 : OKp l S b Lx xs dC dI cA 188 15 (s_iload 3) := ok_iload_n (k9 := 3) (by decide +kernel) rfl rfl
theorem o188_16 : OKp l S b Lx xs dC dI cA 188 16 (s_if (fun x => x = 0) 19) := ok_if_eq (off := 5) (by decide +kernel) (by decide +kernel) rfl
theorem o188_17 : OKp l S b Lx xs dC dI cA 188 17 (s_iload 3) := ok_iload_n (k9 := 3) (by decide +kernel) rfl rfl
theorem o188_18 : OKp l S b Lx xs dC dI cA 188 18 (s_ret) := ok_ret (by decide +kernel) rfl
theorem o188_19 : OKp l S b Lx xs dC dI cA 188 19 (s_aload 0) := ok_aload_n (k9 := 0) (by decide +kernel) rfl rfl
theorem o188_20 : OKp l S b Lx xs dC dI cA 188 20 (s_invV (dv1 12 183 1) [] 0) := ok_invV (dv1_ok vc_RX12_184_12 rfl (by decide) (hXX 183 (by decide))) (by decide +kernel) rfl
theorem o188_21 : OKp l S b Lx xs dC dI cA 188 21 (s_aload 0) := ok_aload_n (k9 := 0) (by decide +kernel) rfl rfl
theorem o188_22 : OKp l S b Lx xs dC dI cA 188 22 (s_iload 1) := ok_iload_n (k9 := 1) (by decide +kernel) rfl rfl
theorem o188_23 : OKp l S b Lx xs dC dI cA 188 23 (s_const (-4)) := ok_bipush (n := -4) (by decide +kernel) (by decide) rfl
theorem o188_24 : OKp l S b Lx xs dC dI cA 188 24 (s_invV (dv1 12 185 6) [] 2) := ok_invV (dv1_ok vc_RX12_187_12 rfl (by decide) (hXX 185 (by decide))) (by decide +kernel) rfl
theorem o188_25 : OKp l S b Lx xs dC dI cA 188 25 (s_istore 4) := ok_istore (by decide +kernel) rfl
theorem o188_26 : OKp l S b Lx xs dC dI cA 188 26 (s_aload 0) := ok_aload_n (k9 := 0) (by decide +kernel) rfl rfl
theorem o188_27 : OKp l S b Lx xs dC dI cA 188 27 (s_invV (dv1 12 187 3) [] 0) := ok_invV (dv1_ok vc_RX12_190_12 rfl (by decide) (hXX 187 (by decide))) (by decide +kernel) rfl
theorem o188_28 : OKp l S b Lx xs dC dI cA 188 28 (s_aload 0) := ok_aload_n (k9 := 0) (by decide +kernel) rfl rfl
theorem o188_29 : OKp l S b Lx xs dC dI cA 188 29 (s_invV (dv1 12 186 3) [] 0) := ok_invV (dv1_ok vc_RX12_193_12 rfl (by decide) (hXX 186 (by decide))) (by decide +kernel) rfl
theorem o188_30 : OKp l S b Lx xs dC dI cA 188 30 (s_bin g_isub) := ok_isub (by decide +kernel) rfl
theorem o188_31 : OKp l S b Lx xs dC dI cA 188 31 (s_istore 5) := ok_istore (by decide +kernel) rfl
theorem o188_32 : OKp l S b Lx xs dC dI cA 188 32 (s_aload 0) := ok_aload_n (k9 := 0) (by decide +kernel) rfl rfl
theorem o188_33 : OKp l S b Lx xs dC dI cA 188 33 (s_invV (dv1 12 184 1) [] 0) := ok_invV (dv1_ok vc_RX12_196_12 rfl (by decide) (hXX 184 (by decide))) (by decide +kernel) rfl
theorem o188_34 : OKp l S b Lx xs dC dI cA 188 34 (s_iload 2) := ok_iload_n (k9 := 2) (by decide +kernel) rfl rfl
theorem o188_35 : OKp l S b Lx xs dC dI cA 188 35 (s_if (fun x => x ≠ 0) 38) := ok_if_ne (off := 8) (by decide +kernel) (by decide +kernel) rfl
theorem o188_36 : OKp l S b Lx xs dC dI cA 188 36 (s_iload 4) := ok_iload (by decide +kernel) rfl
theorem o188_37 : OKp l S b Lx xs dC dI cA 188 37 (s_goto 39) := ok_goto (off := 5) (by decide +kernel) (by decide +kernel)
theorem o188_38 : OKp l S b Lx xs dC dI cA 188 38 (s_iload 5) := ok_iload (by decide +kernel) rfl
theorem o188_39 : OKp l S b Lx xs dC dI cA 188 39 (s_ret) := ok_ret (by decide +kernel) rfl
theorem a188 (hl9 : l.stackTraces = false) : sm_all (OKp l S b Lx xs dC dI cA 188) 0 sc_188 := ⟨o188_0, o188_1, o188_2, o188_3, o188_4, o188_5, o188_6, o188_7, o188_8, o188_9, o188_10, o188_11, o188_12, o188_13, o188_14, o188_15, o188_16, o188_17, o188_18, o188_19, o188_20, o188_21, o188_22, o188_23, o188_24, o188_25, o188_26, o188_27, o188_28, o188_29, o188_30, o188_31, o188_32, o188_33, o188_34, o188_35, o188_36, o188_37, o188_38, o188_39, trivial⟩
theorem o189_0 : OKp l S b Lx xs dC dI cA 189 0 (s_aload 0) := ok_aload_n (k9 := 0) (by decide +kernel) rfl rfl
theorem o189_1 : OKp l S b Lx xs dC dI cA 189 1 (s_getR (fun t => t == 12) 6) := ok_getR (by decide +kernel) rfl fd_RX12_28
theorem o189_2 : OKp l S b Lx xs dC dI cA 189 2 (s_iload 2) := ok_iload_n (k9 := 2) (by decide +kernel) rfl rfl
theorem o189_3 : OKp l S b Lx xs dC dI cA 189 3 (s_iald) := ok_iald (by decide +kernel) rfl
theorem o189_4 : OKp l S b Lx xs dC dI cA 189 4 (s_istore 5) := ok_istore (by decide +kernel) rfl
theorem o189_5 : OKp l S b Lx xs dC dI cA 189 5 (s_iload 3) := ok_iload_n (k9 := 3) (by decide +kernel) rfl rfl
theorem o189_6 : OKp l S b Lx xs dC dI cA 189 6 (s_iload 5) := ok_iload (by decide +kernel) rfl
theorem o189_7 : OKp l S b Lx xs dC dI cA 189 7 (s_icmp (fun x y => x ≠ y) 69) := ok_icmp_ne (off := 115) (by decide +kernel) (by decide +kernel) rfl
theorem o189_8 : OKp l S b Lx xs dC dI cA 189 8 (s_aload 0) := ok_aload_n (k9 := 0) (by decide +kernel) rfl rfl
theorem o189_9 : OKp l S b Lx xs dC dI cA 189 9 (s_invV (dv1 12 183 1) [] 0) := ok_invV (dv1_ok vc_RX12_184_12 rfl (by decide) (hXX 183 (by decide))) (by decide +kernel) rfl
theorem o189_10 : OKp l S b Lx xs dC dI cA 189 10 (s_const (0)) := ok_iconst (n := 0) (by decide +kernel) (by decide) rfl
theorem o189_11 : OKp l S b Lx xs dC dI cA 189 11 (s_istore 6) := ok_istore (by decide +kernel) rfl
theorem o189_12 : OKp l S b Lx xs dC dI cA 189 12 (s_const (0)) := ok_iconst (n := 0) (by decide +kernel) (by decide) rfl
theorem o189_13 : OKp l S b Lx xs dC dI cA 189 13 (s_istore 7) := ok_istore (by decide +kernel) rfl
theorem o189_14 : OKp l S b Lx xs dC dI cA 189 14 (s_iload 7) := ok_iload (by decide +kernel) rfl
theorem o189_15 : OKp l S b Lx xs dC dI cA 189 15 (s_iload 5) := ok_iload (by decide +kernel) rfl
theorem o189_16 : OKp l S b Lx xs dC dI cA 189 16 (s_icmp (fun x y => y ≤ x) 36) := ok_icmp_ge (off := 36) (by decide +kernel) (by decide +kernel) rfl
theorem o189_17 : OKp l S b Lx xs dC dI cA 189 17 (s_iload 6) := ok_iload (by decide +kernel) rfl
theorem o189_18 : OKp l S b Lx xs dC dI cA 189 18 (s_aload 0) := ok_aload_n (k9 := 0) (by decide +kernel) rfl rfl
theorem o189_19 : OKp l S b Lx xs dC dI cA 189 19 (s_aload 0) := ok_aload_n (k9 := 0) (by decide +kernel) rfl rfl
theorem o189_20 : OKp l S b Lx xs dC dI cA 189 20 (s_getR (fun t => t == 12) 7) := ok_getR (by decide +kernel) rfl fd_RX12_31
theorem o189_21 : OKp l S b Lx xs dC dI cA 189 21 (s_const (100)) := ok_bipush (n := 100) (by decide +kernel) (by decide) rfl
theorem o189_22 : OKp l S b Lx xs dC dI cA 189 22 (s_iload 2) := ok_iload_n (k9 := 2) (by decide +kernel) rfl rfl
theorem o189_23 : OKp l S b Lx xs dC dI cA 189 23 (s_bin g_imul) := ok_imul (by decide +kernel) rfl
theorem o189_24 : OKp l S b Lx xs dC dI cA 189 24 (s_aload 0) := ok_aload_n (k9 := 0) (by decide +kernel) rfl rfl
theorem o189_25 : OKp l S b Lx xs dC dI cA 189 25 (s_getR (fun t => t == 12) 16) := ok_getR (by decide +kernel) rfl fd_RX12_43
theorem o189_26 : OKp l S b Lx xs dC dI cA 189 26 (s_iload 7) := ok_iload (by decide +kernel) rfl
theorem o189_27 : OKp l S b Lx xs dC dI cA 189 27 (s_iald) := ok_iald (by decide +kernel) rfl
theorem o189_28 : OKp l S b Lx xs dC dI cA 189 28 (s_bin g_iadd) := ok_iadd (by decide +kernel) rfl
theorem o189_29 : OKp l S b Lx xs dC dI cA 189 29 (s_iald) := ok_iald (by decide +kernel) rfl
theorem o189_30 : OKp l S b Lx xs dC dI cA 189 30 (s_iload 1) := ok_iload_n (k9 := 1) (by decide +kernel) rfl rfl
theorem o189_31 : OKp l S b Lx xs dC dI cA 189 31 (s_invV (dv1 12 162 5) [] 2) := ok_invV (dv1_ok vc_RX12_147_12 rfl (by decide) (hXX 162 (by decide))) (by decide +kernel) rfl
theorem o189_32 : OKp l S b Lx xs dC dI cA 189 32 (s_bin g_iadd) := ok_iadd (by decide +kernel) rfl
theorem o189_33 : OKp l S b Lx xs dC dI cA 189 33 (s_istore 6) := ok_istore (by decide +kernel) rfl
theorem o189_34 : OKp l S b Lx xs dC dI cA 189 34 (s_iinc 7 (1)) := ok_iinc (n := 1) (by decide +kernel) (by decide) rfl
theorem o189_35 : OKp l S b Lx xs dC dI cA 189 35 (s_goto 14) := ok_goto (off := -37) (by decide +kernel) (by decide +kernel)
theorem o189_36 : OKp l S b Lx xs dC dI cA 189 36 (s_aload 0) := ok_aload_n (k9 := 0) (by decide +kernel) rfl rfl
theorem o189_37 : OKp l S b Lx xs dC dI cA 189 37 (s_invV (dv1 12 184 1) [] 0) := ok_invV (dv1_ok vc_RX12_196_12 rfl (by decide) (hXX 184 (by decide))) (by decide +kernel) rfl
theorem o189_38 : OKp l S b Lx xs dC dI cA 189 38 (s_iload 6) := ok_iload (by decide +kernel) rfl
theorem o189_39 : OKp l S b Lx xs dC dI cA 189 39 (s_aload 0) := ok_aload_n (k9 := 0) (by decide +kernel) rfl rfl
theorem o189_40 : OKp l S b Lx xs dC dI cA 189 40 (s_getI (fun t => t == 12) 17) := ok_getI (by decide +kernel) rfl fd_RX12_199
theorem o189_41 : OKp l S b Lx xs dC dI cA 189 41 (s_icmp (fun x y => y < x) 43) := ok_icmp_gt (off := 4) (by decide +kernel) (by decide +kernel) rfl
theorem o189_42 : OKp l S b Lx xs dC dI cA 189 42 (s_vret) := ok_vret (by decide +kernel) rfl
theorem o189_43 : OKp l S b Lx xs dC dI cA 189 43 (s_aload 0) := ok_aload_n (k9 := 0) (by decide +kernel) rfl rfl
theorem o189_44 : OKp l S b Lx xs dC dI cA 189 44 (s_iload 6) := ok_iload (by decide +kernel) rfl
theorem o189_45 : OKp l S b Lx xs dC dI cA 189 45 (s_putI 12 17) := ok_putI (by decide +kernel) rfl fp_RX12_199 rfl
theorem o189_46 : OKp l S b Lx xs dC dI cA 189 46 (s_aload 0) := ok_aload_n (k9 := 0) (by decide +kernel) rfl rfl
theorem o189_47 : OKp l S b Lx xs dC dI cA 189 47 (s_const (0)) := ok_iconst (n := 0) (by decide +kernel) (by decide) rfl
theorem o189_48 : OKp l S b Lx xs dC dI cA 189 48 (s_putI 12 18) := ok_putI (by decide +kernel) rfl fp_RX12_202 rfl
theorem o189_49 : OKp l S b Lx xs dC dI cA 189 49 (s_iload 5) := ok_iload (by decide +kernel) rfl
theorem o189_50 : OKp l S b Lx xs dC dI cA 189 50 (s_const (1)) := ok_iconst (n := 1) (by decide +kernel) (by decide) rfl
theorem o189_51 : OKp l S b Lx xs dC dI cA 189 51 (s_bin g_isub) := ok_isub (by decide +kernel) rfl
theorem o189_52 : OKp l S b Lx xs dC dI cA 189 52 (s_istore 7) := ok_istore (by decide +kernel) rfl
theorem o189_53 : OKp l S b Lx xs dC dI cA 189 53 (s_iload 7) := ok_iload (by decide +kernel) rfl
theorem o189_54 : OKp l S b Lx xs dC dI cA 189 54 (s_if (fun x => x < 0) 68) := ok_if_lt (off := 28) (by decide +kernel) (by decide +kernel) rfl
theorem o189_55 : OKp l S b Lx xs dC dI cA 189 55 (s_aload 0) := ok_aload_n (k9 := 0) (by decide +kernel) rfl rfl
theorem o189_56 : OKp l S b Lx xs dC dI cA 189 56 (s_const (10)) := ok_bipush (n := 10) (by decide +kernel) (by decide) rfl
theorem o189_57 : OKp l S b Lx xs dC dI cA 189 57 (s_aload 0) := ok_aload_n (k9 := 0) (by decide +kernel) rfl rfl
theorem o189_58 : OKp l S b Lx xs dC dI cA 189 58 (s_getI (fun t => t == 12) 18) := ok_getI (by decide +kernel) rfl fd_RX12_202
theorem o189_59 : OKp l S b Lx xs dC dI cA 189 59 (s_bin g_imul) := ok_imul (by decide +kernel) rfl
theorem o189_60 : OKp l S b Lx xs dC dI cA 189 60 (s_aload 0) := ok_aload_n (k9 := 0) (by decide +kernel) rfl rfl
theorem o189_61 : OKp l S b Lx xs dC dI cA 189 61 (s_getR (fun t => t == 12) 16) := ok_getR (by decide +kernel) rfl fd_RX12_43
theorem o189_62 : OKp l S b Lx xs dC dI cA 189 62 (s_iload 7) := ok_iload (by decide +kernel) rfl
theorem o189_63 : OKp l S b Lx xs dC dI cA 189 63 (s_iald) := ok_iald (by decide +kernel) rfl
theorem o189_64 : OKp l S b Lx xs dC dI cA 189 64 (s_bin g_iadd) := ok_iadd (by decide +kernel) rfl
theorem o189_65 : OKp l S b Lx xs dC dI cA 189 65 (s_putI 12 18) := ok_putI (by decide +kernel) rfl fp_RX12_202 rfl
theorem o189_66 : OKp l S b Lx xs dC dI cA 189 66 (s_iinc 7 (-1)) := ok_iinc (n := -1) (by decide +kernel) (by decide) rfl
theorem o189_67 : OKp l S b Lx xs dC dI cA 189 67 (s_goto 53) := ok_goto (off := -27) (by decide +kernel) (by decide +kernel)
theorem o189_68 : OKp l S b Lx xs dC dI cA 189 68 (s_vret) := ok_vret (by decide +kernel) rfl
theorem o189_69 : OKp l S b Lx xs dC dI cA 189 69 (s_const (0)) := ok_iconst (n := 0) (by decide +kernel) (by decide) rfl
theorem o189_70 : OKp l S b Lx xs dC dI cA 189 70 (s_istore 6) := ok_istore (by decide +kernel) rfl
theorem o189_71 : OKp l S b Lx xs dC dI cA 189 71 (s_iload 6) := ok_iload (by decide +kernel) rfl
theorem o189_72 : OKp l S b Lx xs dC dI cA 189 72 (s_iload 5) := ok_iload (by decide +kernel) rfl
theorem o189_73 : OKp l S b Lx xs dC dI cA 189 73 (s_icmp (fun x y => y ≤ x) 101) := ok_icmp_ge (off := 47) (by decide +kernel) (by decide +kernel) rfl
theorem o189_74 : OKp l S b Lx xs dC dI cA 189 74 (s_iload 4) := ok_iload (by decide +kernel) rfl
theorem o189_75 : OKp l S b Lx xs dC dI cA 189 75 (s_iload 6) := ok_iload (by decide +kernel) rfl
theorem o189_76 : OKp l S b Lx xs dC dI cA 189 76 (s_bin g_ishr) := ok_ishr (by decide +kernel) rfl
theorem o189_77 : OKp l S b Lx xs dC dI cA 189 77 (s_const (1)) := ok_iconst (n := 1) (by decide +kernel) (by decide) rfl
theorem o189_78 : OKp l S b Lx xs dC dI cA 189 78 (s_bin g_iand) := ok_iand (by decide +kernel) rfl
theorem o189_79 : OKp l S b Lx xs dC dI cA 189 79 (s_const (1)) := ok_iconst (n := 1) (by decide +kernel) (by decide) rfl
theorem o189_80 : OKp l S b Lx xs dC dI cA 189 80 (s_icmp (fun x y => x ≠ y) 82) := ok_icmp_ne (off := 6) (by decide +kernel) (by decide +kernel) rfl
theorem o189_81 : OKp l S b Lx xs dC dI cA 189 81 (s_goto 99) := ok_goto (off := 27) (by decide +kernel) (by decide +kernel)
theorem o189_82 : OKp l S b Lx xs dC dI cA 189 82 (s_aload 0) := ok_aload_n (k9 := 0) (by decide +kernel) rfl rfl
theorem o189_83 : OKp l S b Lx xs dC dI cA 189 83 (s_getR (fun t => t == 12) 16) := ok_getR (by decide +kernel) rfl fd_RX12_43
theorem o189_84 : OKp l S b Lx xs dC dI cA 189 84 (s_iload 3) := ok_iload_n (k9 := 3) (by decide +kernel) rfl rfl
theorem o189_85 : OKp l S b Lx xs dC dI cA 189 85 (s_iload 6) := ok_iload (by decide +kernel) rfl
theorem o189_86 : OKp l S b Lx xs dC dI cA 189 86 (s_iast) := ok_iast (by decide +kernel) rfl
theorem o189_87 : OKp l S b Lx xs dC dI cA 189 87 (s_aload 0) := ok_aload_n (k9 := 0) (by decide +kernel) rfl rfl
theorem o189_88 : OKp l S b Lx xs dC dI cA 189 88 (s_iload 1) := ok_iload_n (k9 := 1) (by decide +kernel) rfl rfl
theorem o189_89 : OKp l S b Lx xs dC dI cA 189 89 (s_iload 2) := ok_iload_n (k9 := 2) (by decide +kernel) rfl rfl
theorem o189_90 : OKp l S b Lx xs dC dI cA 189 90 (s_iload 3) := ok_iload_n (k9 := 3) (by decide +kernel) rfl rfl
theorem o189_91 : OKp l S b Lx xs dC dI cA 189 91 (s_const (1)) := ok_iconst (n := 1) (by decide +kernel) (by decide) rfl
theorem o189_92 : OKp l S b Lx xs dC dI cA 189 92 (s_bin g_iadd) := ok_iadd (by decide +kernel) rfl
theorem o189_93 : OKp l S b Lx xs dC dI cA 189 93 (s_iload 4) := ok_iload (by decide +kernel) rfl
theorem o189_94 : OKp l S b Lx xs dC dI cA 189 94 (s_const (1)) := ok_iconst (n := 1) (by decide +kernel) (by decide) rfl
theorem o189_95 : OKp l S b Lx xs dC dI cA 189 95 (s_iload 6) := ok_iload (by decide +kernel) rfl
theorem o189_96 : OKp l S b Lx xs dC dI cA 189 96 (s_bin g_ishl) := ok_ishl (by decide +kernel) rfl
theorem o189_97 : OKp l S b Lx xs dC dI cA 189 97 (s_bin g_ior) := ok_ior (by decide +kernel) rfl
theorem o189_98 : OKp l S b Lx xs dC dI cA 189 98 (s_invV (dv1 12 189 8) [] 4) := ok_invV (dv1_ok vc_RX12_205_12 rfl (by decide) (hXX 189 (by decide))) (by decide +kernel) rfl
theorem o189_99 : OKp l S b Lx xs dC dI cA 189 99 (s_iinc 6 (1)) := ok_iinc (n := 1) (by decide +kernel) (by decide) rfl
theorem o189_100 : OKp l S b Lx xs dC dI cA 189 100 (s_goto 71) := ok_goto (off := -48) (by decide +kernel) (by decide +kernel)
theorem o189_101 : OKp l S b Lx xs dC dI cA 189 101 (s_vret) := ok_vret (by decide +kernel) rfl
theorem a189_0 (hl9 : l.stackTraces = false) : sm_all (OKp l S b Lx xs dC dI cA 189) 0 sc_189_0 := ⟨o189_0, o189_1, o189_2, o189_3, o189_4, o189_5, o189_6, o189_7, o189_8, o189_9, o189_10, o189_11, o189_12, o189_13, o189_14, o189_15, o189_16, o189_17, o189_18, o189_19, o189_20, o189_21, o189_22, o189_23, o189_24, o189_25, o189_26, o189_27, o189_28, o189_29, o189_30, o189_31, o189_32, o189_33, o189_34, o189_35, o189_36, o189_37, o189_38, o189_39, o189_40, o189_41, o189_42, o189_43, o189_44, o189_45, o189_46, o189_47, o189_48, o189_49, o189_50, o189_51, o189_52, o189_53, o189_54, o189_55, o189_56, o189_57, o189_58, o189_59, trivial⟩
theorem a189_1 (hl9 : l.stackTraces = false) : sm_all (OKp l S b Lx xs dC dI cA 189) 60 sc_189_1 := ⟨o189_60, o189_61, o189_62, o189_63, o189_64, o189_65, o189_66, o189_67, o189_68, o189_69, o189_70, o189_71, o189_72, o189_73, o189_74, o189_75, o189_76, o189_77, o189_78, o189_79, o189_80, o189_81, o189_82, o189_83, o189_84, o189_85, o189_86, o189_87, o189_88, o189_89, o189_90, o189_91, o189_92, o189_93, o189_94, o189_95, o189_96, o189_97, o189_98, o189_99, o189_100, o189_101, trivial⟩
theorem a189 (hl9 : l.stackTraces = false) : sm_all (OKp l S b Lx xs dC dI cA 189) 0 sc_189 := sm_all_app _ _ _ (a189_0 hl9) (a189_1 hl9)
theorem o190_0 : OKp l S b Lx xs dC dI cA 190 0 (s_aload 0) := ok_aload_n (k9 := 0) (by decide +kernel) rfl rfl
theorem o190_1 : OKp l S b Lx xs dC dI cA 190 1 (s_iload 1) := ok_iload_n (k9 := 1) (by decide +kernel) rfl rfl
theorem o190_2 : OKp l S b Lx xs dC dI cA 190 2 (s_invV (dv1 12 141 2) [] 1) := ok_invV (dv1_ok vc_RX12_59_12 rfl (by decide) (hXX 141 (by decide))) (by decide +kernel) rfl
theorem o190_3 : OKp l S b Lx xs dC dI cA 190 3 (s_if (fun x => x = 0) 13) := ok_if_eq (off := 20) (by decide +kernel) (by decide +kernel) rfl
theorem o190_4 : OKp l S b Lx xs dC dI cA 190 4 (s_iload 2) := ok_iload_n (k9 := 2) (by decide +kernel) rfl rfl
theorem o190_5 : OKp l S b Lx xs dC dI cA 190 5 (s_invS 140 1 1) := ok_invS rfl rfl (by decide) (hXX 140 (by decide)) w_1008 w_1009 w_61 c_140 (by decide +kernel) (by decide +kernel) rfl
theorem o190_6 : OKp l S b Lx xs dC dI cA 190 6 (s_if (fun x => x = 0) 13) := ok_if_eq (off := 13) (by decide +kernel) (by decide +kernel) rfl
theorem o190_7 : OKp l S b Lx xs dC dI cA 190 7 (s_iload 3) := ok_iload_n (k9 := 3) (by decide +kernel) rfl rfl
theorem o190_8 : OKp l S b Lx xs dC dI cA 190 8 (s_i2l) := ok_i2l (by decide +kernel) rfl
theorem o190_9 : OKp l S b Lx xs dC dI cA 190 9 (s_lconst 0) := ok_lconst (n := 0) (by decide +kernel) (by decide) rfl
theorem o190_10 : OKp l S b Lx xs dC dI cA 190 10 (s_lconst 1) := ok_lconst (n := 1) (by decide +kernel) (by decide) rfl
theorem o190_11 : OKp l S b Lx xs dC dI cA 190 11 (s_invS 139 3 6) := ok_invS rfl rfl (by decide) (hXX 139 (by decide)) w_1012 w_1013 w_61 c_139 (by decide +kernel) (by decide +kernel) rfl
theorem o190_12 : OKp l S b Lx xs dC dI cA 190 12 (s_if (fun x => x ≠ 0) 15) := ok_if_ne (off := 7) (by decide +kernel) (by decide +kernel) rfl
theorem o190_13 : OKp l S b Lx xs dC dI cA 190 13 (s_const (-1)) := ok_iconst (n := -1) (by decide +kernel) (by decide) rfl
theorem o190_14 : OKp l S b Lx xs dC dI cA 190 14 (s_goto 18) := ok_goto (off := 8) (by decide +kernel) (by decide +kernel)
theorem o190_15 : OKp l S b Lx xs dC dI cA 190 15 (s_aload 0) := ok_aload_n (k9 := 0) (by decide +kernel) rfl rfl
theorem o190_16 : OKp l S b Lx xs dC dI cA 190 16 (s_iload 2) := ok_iload_n (k9 := 2) (by decide +kernel) rfl rfl
theorem o190_17 : OKp l S b Lx xs dC dI cA 190 17 (s_invV (dv1 12 182 4) [] 1) := ok_invV (dv1_ok vc_RX12_209_12 rfl (by decide) (hXX 182 (by decide))) (by decide +kernel) rfl
theorem o190_18 : OKp l S b Lx xs dC dI cA 190 18 (s_ret) := ok_ret (by decide +kernel) rfl
theorem a190 (hl9 : l.stackTraces = false) : sm_all (OKp l S b Lx xs dC dI cA 190) 0 sc_190 := ⟨o190_0, o190_1, o190_2, o190_3, o190_4, o190_5, o190_6, o190_7, o190_8, o190_9, o190_10, o190_11, o190_12, o190_13, o190_14, o190_15, o190_16, o190_17, o190_18, trivial⟩
theorem o191_0 : OKp l S b Lx xs dC dI cA 191 0 (s_aload 0) := ok_aload_n (k9 := 0) (by decide +kernel) rfl rfl
theorem o191_1 : OKp l S b Lx xs dC dI cA 191 1 (s_iload 1) := ok_iload_n (k9 := 1) (by decide +kernel) rfl rfl
theorem o191_2 : OKp l S b Lx xs dC dI cA 191 2 (s_iload 2) := ok_iload_n (k9 := 2) (by decide +kernel) rfl rfl
theorem o191_3 : OKp l S b Lx xs dC dI cA 191 3 (s_iload 3) := ok_iload_n (k9 := 3) (by decide +kernel) rfl rfl
theorem o191_4 : OKp l S b Lx xs dC dI cA 191 4 (s_invV (dv1 12 190 4) [] 3) := ok_invV (dv1_ok vc_RX12_212_12 rfl (by decide) (hXX 190 (by decide))) (by decide +kernel) rfl
theorem o191_5 : OKp l S b Lx xs dC dI cA 191 5 (s_istore 4) := ok_istore (by decide +kernel) rfl
theorem o191_6 : OKp l S b Lx xs dC dI cA 191 6 (s_iload 4) := ok_iload (by decide +kernel) rfl
theorem o191_7 : OKp l S b Lx xs dC dI cA 191 7 (s_if (fun x => x = 0) 10) := ok_if_eq (off := 6) (by decide +kernel) (by decide +kernel) rfl
theorem o191_8 : OKp l S b Lx xs dC dI cA 191 8 (s_iload 4) := ok_iload (by decide +kernel) rfl
theorem o191_9 : OKp l S b Lx xs dC dI cA 191 9 (s_ret) := ok_ret (by decide +kernel) rfl
theorem o191_10 : OKp l S b Lx xs dC dI cA 191 10 (s_aload 0) := ok_aload_n (k9 := 0) (by decide +kernel) rfl rfl
theorem o191_11 : OKp l S b Lx xs dC dI cA 191 11 (s_const (-1)) := ok_iconst (n := -1) (by decide +kernel) (by decide) rfl
theorem o191_12 : OKp l S b Lx xs dC dI cA 191 12 (s_putI 12 17) := ok_putI (by decide +kernel) rfl fp_RX12_199 rfl
theorem o191_13 : OKp l S b Lx xs dC dI cA 191 13 (s_aload 0) := ok_aload_n (k9 := 0) (by decide +kernel) rfl rfl
theorem o191_14 : OKp l S b Lx xs dC dI cA 191 14 (s_iload 1) := ok_iload_n (k9 := 1) (by decide +kernel) rfl rfl
theorem o191_15 : OKp l S b Lx xs dC dI cA 191 15 (s_iload 2) := ok_iload_n (k9 := 2) (by decide +kernel) rfl rfl
theorem o191_16 : OKp l S b Lx xs dC dI cA 191 16 (s_const (0)) := ok_iconst (n := 0) (by decide +kernel) (by decide) rfl
theorem o191_17 : OKp l S b Lx xs dC dI cA 191 17 (s_const (0)) := ok_iconst (n := 0) (by decide +kernel) (by decide) rfl
theorem o191_18 : OKp l S b Lx xs dC dI cA 191 18 (s_invV (dv1 12 189 8) [] 4) := ok_invV (dv1_ok vc_RX12_205_12 rfl (by decide) (hXX 189 (by decide))) (by decide +kernel) rfl
theorem o191_19 : OKp l S b Lx xs dC dI cA 191 19 (s_iload 3) := ok_iload_n (k9 := 3) (by decide +kernel) rfl rfl
theorem o191_20 : OKp l S b Lx xs dC dI cA 191 20 (s_if (fun x => x ≠ 0) 24) := ok_if_ne (off := 10) (by decide +kernel) (by decide +kernel) rfl
theorem o191_21 : OKp l S b Lx xs dC dI cA 191 21 (s_aload 0) := ok_aload_n (k9 := 0) (by decide +kernel) rfl rfl
theorem o191_22 : OKp l S b Lx xs dC dI cA 191 22 (s_getI (fun t => t == 12) 17) := ok_getI (by decide +kernel) rfl fd_RX12_199
theorem o191_23 : OKp l S b Lx xs dC dI cA 191 23 (s_goto 26) := ok_goto (off := 7) (by decide +kernel) (by decide +kernel)
theorem o191_24 : OKp l S b Lx xs dC dI cA 191 24 (s_aload 0) := ok_aload_n (k9 := 0) (by decide +kernel) rfl rfl
theorem o191_25 : OKp l S b Lx xs dC dI cA 191 25 (s_getI (fun t => t == 12) 18) := ok_getI (by decide +kernel) rfl fd_RX12_202
theorem o191_26 : OKp l S b Lx xs dC dI cA 191 26 (s_ret) := ok_ret (by decide +kernel) rfl
theorem a191 (hl9 : l.stackTraces = false) : sm_all (OKp l S b Lx xs dC dI cA 191) 0 sc_191 := ⟨o191_0, o191_1, o191_2, o191_3, o191_4, o191_5, o191_6, o191_7, o191_8, o191_9, o191_10, o191_11, o191_12, o191_13, o191_14, o191_15, o191_16, o191_17, o191_18, o191_19, o191_20, o191_21, o191_22, o191_23, o191_24, o191_25, o191_26, trivial⟩
theorem o192_0 : OKp l S b Lx xs dC dI cA 192 0 (s_const (0)) := ok_iconst (n := 0) (by decide +kernel) (by decide) rfl
theorem o192_1 : OKp l S b Lx xs dC dI cA 192 1 (s_istore 3) := ok_istore_n (k9 := 3) (by decide +kernel) rfl rfl
theorem o192_2 : OKp l S b Lx xs dC dI cA 192 2 (s_const (0)) := ok_iconst (n := 0) (by decide +kernel) (by decide) rfl
theorem o192_3 : OKp l S b Lx xs dC dI cA 192 3 (s_istore 4) := ok_istore (by decide +kernel) rfl
theorem o192_4 : OKp l S b Lx xs dC dI cA 192 4 (s_iload 4) := ok_iload (by decide +kernel) rfl
theorem o192_5 : OKp l S b Lx xs dC dI cA 192 5 (s_aload 0) := ok_aload_n (k9 := 0) (by decide +kernel) rfl rfl
theorem o192_6 : OKp l S b Lx xs dC dI cA 192 6 (s_getR (fun t => t == 12) 6) := ok_getR (by decide +kernel) rfl fd_RX12_28
theorem o192_7 : OKp l S b Lx xs dC dI cA 192 7 (s_iload 2) := ok_iload_n (k9 := 2) (by decide +kernel) rfl rfl
theorem o192_8 : OKp l S b Lx xs dC dI cA 192 8 (s_iald) := ok_iald (by decide +kernel) rfl
theorem o192_9 : OKp l S b Lx xs dC dI cA 192 9 (s_icmp (fun x y => y ≤ x) 26) := ok_icmp_ge (off := 29) (by decide +kernel) (by decide +kernel) rfl
theorem o192_10 : OKp l S b Lx xs dC dI cA 192 10 (s_iload 3) := ok_iload_n (k9 := 3) (by decide +kernel) rfl rfl
theorem o192_11 : OKp l S b Lx xs dC dI cA 192 11 (s_aload 0) := ok_aload_n (k9 := 0) (by decide +kernel) rfl rfl
theorem o192_12 : OKp l S b Lx xs dC dI cA 192 12 (s_aload 0) := ok_aload_n (k9 := 0) (by decide +kernel) rfl rfl
theorem o192_13 : OKp l S b Lx xs dC dI cA 192 13 (s_getR (fun t => t == 12) 7) := ok_getR (by decide +kernel) rfl fd_RX12_31
theorem o192_14 : OKp l S b Lx xs dC dI cA 192 14 (s_const (100)) := ok_bipush (n := 100) (by decide +kernel) (by decide) rfl
theorem o192_15 : OKp l S b Lx xs dC dI cA 192 15 (s_iload 2) := ok_iload_n (k9 := 2) (by decide +kernel) rfl rfl
theorem o192_16 : OKp l S b Lx xs dC dI cA 192 16 (s_bin g_imul) := ok_imul (by decide +kernel) rfl
theorem o192_17 : OKp l S b Lx xs dC dI cA 192 17 (s_iload 4) := ok_iload (by decide +kernel) rfl
theorem o192_18 : OKp l S b Lx xs dC dI cA 192 18 (s_bin g_iadd) := ok_iadd (by decide +kernel) rfl
theorem o192_19 : OKp l S b Lx xs dC dI cA 192 19 (s_iald) := ok_iald (by decide +kernel) rfl
theorem o192_20 : OKp l S b Lx xs dC dI cA 192 20 (s_iload 1) := ok_iload_n (k9 := 1) (by decide +kernel) rfl rfl
theorem o192_21 : OKp l S b Lx xs dC dI cA 192 21 (s_invV (dv1 12 162 5) [] 2) := ok_invV (dv1_ok vc_RX12_147_12 rfl (by decide) (hXX 162 (by decide))) (by decide +kernel) rfl
theorem o192_22 : OKp l S b Lx xs dC dI cA 192 22 (s_bin g_iadd) := ok_iadd (by decide +kernel) rfl
theorem o192_23 : OKp l S b Lx xs dC dI cA 192 23 (s_istore 3) := ok_istore_n (k9 := 3) (by decide +kernel) rfl rfl
theorem o192_24 : OKp l S b Lx xs dC dI cA 192 24 (s_iinc 4 (1)) := ok_iinc (n := 1) (by decide +kernel) (by decide) rfl
theorem o192_25 : OKp l S b Lx xs dC dI cA 192 25 (s_goto 4) := ok_goto (off := -34) (by decide +kernel) (by decide +kernel)
theorem o192_26 : OKp l S b Lx xs dC dI cA 192 26 (s_iload 3) := ok_iload_n (k9 := 3) (by decide +kernel) rfl rfl
theorem o192_27 : OKp l S b Lx xs dC dI cA 192 27 (s_ret) := ok_ret (by decide +kernel) rfl
theorem a192 (hl9 : l.stackTraces = false) : sm_all (OKp l S b Lx xs dC dI cA 192) 0 sc_192 := ⟨o192_0, o192_1, o192_2, o192_3, o192_4, o192_5, o192_6, o192_7, o192_8, o192_9, o192_10, o192_11, o192_12, o192_13, o192_14, o192_15, o192_16, o192_17, o192_18, o192_19, o192_20, o192_21, o192_22, o192_23, o192_24, o192_25, o192_26, o192_27, trivial⟩
theorem o193_0 : OKp l S b Lx xs dC dI cA 193 0 (s_aload 0) := ok_aload_n (k9 := 0) (by decide +kernel) rfl rfl
theorem o193_1 : OKp l S b Lx xs dC dI cA 193 1 (s_iload 1) := ok_iload_n (k9 := 1) (by decide +kernel) rfl rfl
theorem o193_2 : OKp l S b Lx xs dC dI cA 193 2 (s_iload 2) := ok_iload_n (k9 := 2) (by decide +kernel) rfl rfl
theorem o193_3 : OKp l S b Lx xs dC dI cA 193 3 (s_iload 3) := ok_iload_n (k9 := 3) (by decide +kernel) rfl rfl
theorem o193_4 : OKp l S b Lx xs dC dI cA 193 4 (s_invV (dv1 12 190 4) [] 3) := ok_invV (dv1_ok vc_RX12_212_12 rfl (by decide) (hXX 190 (by decide))) (by decide +kernel) rfl
theorem o193_5 : OKp l S b Lx xs dC dI cA 193 5 (s_istore 4) := ok_istore (by decide +kernel) rfl
theorem o193_6 : OKp l S b Lx xs dC dI cA 193 6 (s_iload 4) := ok_iload (by decide +kernel) rfl
theorem o193_7 : OKp l S b Lx xs dC dI cA 193 7 (s_if (fun x => x = 0) 10) := ok_if_eq (off := 6) (by decide +kernel) (by decide +kernel) rfl
theorem o193_8 : OKp l S b Lx xs dC dI cA 193 8 (s_iload 4) := ok_iload (by decide +kernel) rfl
theorem o193_9 : OKp l S b Lx xs dC dI cA 193 9 (s_ret) := ok_ret (by decide +kernel) rfl
theorem o193_10 : OKp l S b Lx xs dC dI cA 193 10 (s_aload 0) := ok_aload_n (k9 := 0) (by decide +kernel) rfl rfl
theorem o193_11 : OKp l S b Lx xs dC dI cA 193 11 (s_invV (dv1 12 183 1) [] 0) := ok_invV (dv1_ok vc_RX12_184_12 rfl (by decide) (hXX 183 (by decide))) (by decide +kernel) rfl
theorem o193_12 : OKp l S b Lx xs dC dI cA 193 12 (s_const (-4)) := ok_bipush (n := -4) (by decide +kernel) (by decide) rfl
theorem o193_13 : OKp l S b Lx xs dC dI cA 193 13 (s_istore 5) := ok_istore (by decide +kernel) rfl
theorem o193_14 : OKp l S b Lx xs dC dI cA 193 14 (s_aload 0) := ok_aload_n (k9 := 0) (by decide +kernel) rfl rfl
theorem o193_15 : OKp l S b Lx xs dC dI cA 193 15 (s_iload 1) := ok_iload_n (k9 := 1) (by decide +kernel) rfl rfl
theorem o193_16 : OKp l S b Lx xs dC dI cA 193 16 (s_invV (dv1 12 144 2) [] 1) := ok_invV (dv1_ok vc_RX12_67_12 rfl (by decide) (hXX 144 (by decide))) (by decide +kernel) rfl
theorem o193_17 : OKp l S b Lx xs dC dI cA 193 17 (s_if (fun x => x ≠ 0) 23) := ok_if_ne (off := 12) (by decide +kernel) (by decide +kernel) rfl
theorem o193_18 : OKp l S b Lx xs dC dI cA 193 18 (s_aload 0) := ok_aload_n (k9 := 0) (by decide +kernel) rfl rfl
theorem o193_19 : OKp l S b Lx xs dC dI cA 193 19 (s_iload 1) := ok_iload_n (k9 := 1) (by decide +kernel) rfl rfl
theorem o193_20 : OKp l S b Lx xs dC dI cA 193 20 (s_iload 2) := ok_iload_n (k9 := 2) (by decide +kernel) rfl rfl
theorem o193_21 : OKp l S b Lx xs dC dI cA 193 21 (s_invV (dv1 12 192 5) [] 2) := ok_invV (dv1_ok vc_RX12_215_12 rfl (by decide) (hXX 192 (by decide))) (by decide +kernel) rfl
theorem o193_22 : OKp l S b Lx xs dC dI cA 193 22 (s_goto 24) := ok_goto (off := 4) (by decide +kernel) (by decide +kernel)
theorem o193_23 : OKp l S b Lx xs dC dI cA 193 23 (s_const (0)) := ok_iconst (n := 0) (by decide +kernel) (by decide) rfl
theorem o193_24 : OKp l S b Lx xs dC dI cA 193 24 (s_istore 6) := ok_istore (by decide +kernel) rfl
theorem o193_25 : OKp l S b Lx xs dC dI cA 193 25 (s_aload 0) := ok_aload_n (k9 := 0) (by decide +kernel) rfl rfl
theorem o193_26 : OKp l S b Lx xs dC dI cA 193 26 (s_invV (dv1 12 184 1) [] 0) := ok_invV (dv1_ok vc_RX12_196_12 rfl (by decide) (hXX 184 (by decide))) (by decide +kernel) rfl
theorem o193_27 : OKp l S b Lx xs dC dI cA 193 27 (s_const (0)) := ok_iconst (n := 0) (by decide +kernel) (by decide) rfl
theorem o193_28 : OKp l S b Lx xs dC dI cA 193 28 (s_istore 7) := ok_istore (by decide +kernel) rfl
theorem o193_29 : OKp l S b Lx xs dC dI cA 193 29 (s_iload 7) := ok_iload (by decide +kernel) rfl
theorem o193_30 : OKp l S b Lx xs dC dI cA 193 30 (s_aload 0) := ok_aload_n (k9 := 0) (by decide +kernel) rfl rfl
theorem o193_31 : OKp l S b Lx xs dC dI cA 193 31 (s_iload 1) := ok_iload_n (k9 := 1) (by decide +kernel) rfl rfl
theorem o193_32 : OKp l S b Lx xs dC dI cA 193 32 (s_invV (dv1 12 143 2) [] 1) := ok_invV (dv1_ok vc_RX12_63_12 rfl (by decide) (hXX 143 (by decide))) (by decide +kernel) rfl
theorem o193_33 : OKp l S b Lx xs dC dI cA 193 33 (s_icmp (fun x y => y ≤ x) 64) := ok_icmp_ge (off := 66) (by decide +kernel) (by decide +kernel) rfl
theorem o193_34 : OKp l S b Lx xs dC dI cA 193 34 (s_aload 0) := ok_aload_n (k9 := 0) (by decide +kernel) rfl rfl
theorem o193_35 : OKp l S b Lx xs dC dI cA 193 35 (s_iload 1) := ok_iload_n (k9 := 1) (by decide +kernel) rfl rfl
theorem o193_36 : OKp l S b Lx xs dC dI cA 193 36 (s_iload 7) := ok_iload (by decide +kernel) rfl
theorem o193_37 : OKp l S b Lx xs dC dI cA 193 37 (s_invV (dv1 12 149 3) [] 2) := ok_invV (dv1_ok vc_RX12_90_12 rfl (by decide) (hXX 149 (by decide))) (by decide +kernel) rfl
theorem o193_38 : OKp l S b Lx xs dC dI cA 193 38 (s_if (fun x => x ≠ 0) 40) := ok_if_ne (off := 6) (by decide +kernel) (by decide +kernel) rfl
theorem o193_39 : OKp l S b Lx xs dC dI cA 193 39 (s_goto 62) := ok_goto (off := 47) (by decide +kernel) (by decide +kernel)
theorem o193_40 : OKp l S b Lx xs dC dI cA 193 40 (s_aload 0) := ok_aload_n (k9 := 0) (by decide +kernel) rfl rfl
theorem o193_41 : OKp l S b Lx xs dC dI cA 193 41 (s_iload 1) := ok_iload_n (k9 := 1) (by decide +kernel) rfl rfl
theorem o193_42 : OKp l S b Lx xs dC dI cA 193 42 (s_iload 7) := ok_iload (by decide +kernel) rfl
theorem o193_43 : OKp l S b Lx xs dC dI cA 193 43 (s_const (-4)) := ok_bipush (n := -4) (by decide +kernel) (by decide) rfl
theorem o193_44 : OKp l S b Lx xs dC dI cA 193 44 (s_invV (dv1 12 161 4) [] 3) := ok_invV (dv1_ok vc_RX12_114_12 rfl (by decide) (hXX 161 (by decide))) (by decide +kernel) rfl
theorem o193_45 : OKp l S b Lx xs dC dI cA 193 45 (s_aload 0) := ok_aload_n (k9 := 0) (by decide +kernel) rfl rfl
theorem o193_46 : OKp l S b Lx xs dC dI cA 193 46 (s_iload 1) := ok_iload_n (k9 := 1) (by decide +kernel) rfl rfl
theorem o193_47 : OKp l S b Lx xs dC dI cA 193 47 (s_iload 2) := ok_iload_n (k9 := 2) (by decide +kernel) rfl rfl
theorem o193_48 : OKp l S b Lx xs dC dI cA 193 48 (s_invV (dv1 12 192 5) [] 2) := ok_invV (dv1_ok vc_RX12_215_12 rfl (by decide) (hXX 192 (by decide))) (by decide +kernel) rfl
theorem o193_49 : OKp l S b Lx xs dC dI cA 193 49 (s_istore 8) := ok_istore (by decide +kernel) rfl
theorem o193_50 : OKp l S b Lx xs dC dI cA 193 50 (s_aload 0) := ok_aload_n (k9 := 0) (by decide +kernel) rfl rfl
theorem o193_51 : OKp l S b Lx xs dC dI cA 193 51 (s_invV (dv1 12 184 1) [] 0) := ok_invV (dv1_ok vc_RX12_196_12 rfl (by decide) (hXX 184 (by decide))) (by decide +kernel) rfl
theorem o193_52 : OKp l S b Lx xs dC dI cA 193 52 (s_iload 5) := ok_iload (by decide +kernel) rfl
theorem o193_53 : OKp l S b Lx xs dC dI cA 193 53 (s_if (fun x => x < 0) 58) := ok_if_lt (off := 13) (by decide +kernel) (by decide +kernel) rfl
theorem o193_54 : OKp l S b Lx xs dC dI cA 193 54 (s_iload 8) := ok_iload (by decide +kernel) rfl
theorem o193_55 : OKp l S b Lx xs dC dI cA 193 55 (s_iload 6) := ok_iload (by decide +kernel) rfl
theorem o193_56 : OKp l S b Lx xs dC dI cA 193 56 (s_icmp (fun x y => y < x) 58) := ok_icmp_gt (off := 6) (by decide +kernel) (by decide +kernel) rfl
theorem o193_57 : OKp l S b Lx xs dC dI cA 193 57 (s_goto 62) := ok_goto (off := 11) (by decide +kernel) (by decide +kernel)
theorem o193_58 : OKp l S b Lx xs dC dI cA 193 58 (s_iload 7) := ok_iload (by decide +kernel) rfl
theorem o193_59 : OKp l S b Lx xs dC dI cA 193 59 (s_istore 5) := ok_istore (by decide +kernel) rfl
theorem o193_60 : OKp l S b Lx xs dC dI cA 193 60 (s_iload 8) := ok_iload (by decide +kernel) rfl
theorem o193_61 : OKp l S b Lx xs dC dI cA 193 61 (s_istore 6) := ok_istore (by decide +kernel) rfl
theorem o193_62 : OKp l S b Lx xs dC dI cA 193 62 (s_iinc 7 (1)) := ok_iinc (n := 1) (by decide +kernel) (by decide) rfl
theorem o193_63 : OKp l S b Lx xs dC dI cA 193 63 (s_goto 29) := ok_goto (off := -70) (by decide +kernel) (by decide +kernel)
theorem o193_64 : OKp l S b Lx xs dC dI cA 193 64 (s_iload 3) := ok_iload_n (k9 := 3) (by decide +kernel) rfl rfl
theorem o193_65 : OKp l S b Lx xs dC dI cA 193 65 (s_if (fun x => x ≠ 0) 68) := ok_if_ne (off := 8) (by decide +kernel) (by decide +kernel) rfl
theorem o193_66 : OKp l S b Lx xs dC dI cA 193 66 (s_iload 5) := ok_iload (by decide +kernel) rfl
theorem o193_67 : OKp l S b Lx xs dC dI cA 193 67 (s_goto 69) := ok_goto (off := 5) (by decide +kernel) (by decide +kernel)
theorem o193_68 : OKp l S b Lx xs dC dI cA 193 68 (s_iload 6) := ok_iload (by decide +kernel) rfl
theorem o193_69 : OKp l S b Lx xs dC dI cA 193 69 (s_ret) := ok_ret (by decide +kernel) rfl
theorem a193_0 (hl9 : l.stackTraces = false) : sm_all (OKp l S b Lx xs dC dI cA 193) 0 sc_193_0 := ⟨o193_0, o193_1, o193_2, o193_3, o193_4, o193_5, o193_6, o193_7, o193_8, o193_9, o193_10, o193_11, o193_12, o193_13, o193_14, o193_15, o193_16, o193_17, o193_18, o193_19, o193_20, o193_21, o193_22, o193_23, o193_24, o193_25, o193_26, o193_27, o193_28, o193_29, o193_30, o193_31, o193_32, o193_33, o193_34, o193_35, o193_36, o193_37, o193_38, o193_39, o193_40, o193_41, o193_42, o193_43, o193_44, o193_45, o193_46, o193_47, o193_48, o193_49, o193_50, o193_51, o193_52, o193_53, o193_54, o193_55, o193_56, o193_57, o193_58, o193_59, trivial⟩
theorem a193_1 (hl9 : l.stackTraces = false) : sm_all (OKp l S b Lx xs dC dI cA 193) 60 sc_193_1 := ⟨o193_60, o193_61, o193_62, o193_63, o193_64, o193_65, o193_66, o193_67, o193_68, o193_69, trivial⟩
theorem a193 (hl9 : l.stackTraces = false) : sm_all (OKp l S b Lx xs dC dI cA 193) 0 sc_193 := sm_all_app _ _ _ (a193_0 hl9) (a193_1 hl9)
theorem o194_0 : OKp l S b Lx xs dC dI cA 194 0 (s_aload 0) := ok_aload_n (k9 := 0) (by decide +kernel) rfl rfl
theorem o194_1 : OKp l S b Lx xs dC dI cA 194 1 (s_iload 1) := ok_iload_n (k9 := 1) (by decide +kernel) rfl rfl
theorem o194_2 : OKp l S b Lx xs dC dI cA 194 2 (s_iload 2) := ok_iload_n (k9 := 2) (by decide +kernel) rfl rfl
theorem o194_3 : OKp l S b Lx xs dC dI cA 194 3 (s_invV (dv1 12 176 3) [] 2) := ok_invV (dv1_ok vc_RX12_178_12 rfl (by decide) (hXX 176 (by decide))) (by decide +kernel) rfl
theorem o194_4 : OKp l S b Lx xs dC dI cA 194 4 (s_if (fun x => x ≠ 0) 7) := ok_if_ne (off := 5) (by decide +kernel) (by decide +kernel) rfl
theorem o194_5 : OKp l S b Lx xs dC dI cA 194 5 (s_const (-1)) := ok_iconst (n := -1) (by decide +kernel) (by decide) rfl
theorem o194_6 : OKp l S b Lx xs dC dI cA 194 6 (s_ret) := ok_ret (by decide +kernel) rfl
theorem o194_7 : OKp l S b Lx xs dC dI cA 194 7 (s_aload 0) := ok_aload_n (k9 := 0) (by decide +kernel) rfl rfl
theorem o194_8 : OKp l S b Lx xs dC dI cA 194 8 (s_invV (dv1 12 183 1) [] 0) := ok_invV (dv1_ok vc_RX12_184_12 rfl (by decide) (hXX 183 (by decide))) (by decide +kernel) rfl
theorem o194_9 : OKp l S b Lx xs dC dI cA 194 9 (s_const (0)) := ok_iconst (n := 0) (by decide +kernel) (by decide) rfl
theorem o194_10 : OKp l S b Lx xs dC dI cA 194 10 (s_istore 3) := ok_istore_n (k9 := 3) (by decide +kernel) rfl rfl
theorem o194_11 : OKp l S b Lx xs dC dI cA 194 11 (s_iload 3) := ok_iload_n (k9 := 3) (by decide +kernel) rfl rfl
theorem o194_12 : OKp l S b Lx xs dC dI cA 194 12 (s_const (30)) := ok_bipush (n := 30) (by decide +kernel) (by decide) rfl
theorem o194_13 : OKp l S b Lx xs dC dI cA 194 13 (s_icmp (fun x y => y ≤ x) 21) := ok_icmp_ge (off := 18) (by decide +kernel) (by decide +kernel) rfl
theorem o194_14 : OKp l S b Lx xs dC dI cA 194 14 (s_aload 0) := ok_aload_n (k9 := 0) (by decide +kernel) rfl rfl
theorem o194_15 : OKp l S b Lx xs dC dI cA 194 15 (s_iload 1) := ok_iload_n (k9 := 1) (by decide +kernel) rfl rfl
theorem o194_16 : OKp l S b Lx xs dC dI cA 194 16 (s_iload 2) := ok_iload_n (k9 := 2) (by decide +kernel) rfl rfl
theorem o194_17 : OKp l S b Lx xs dC dI cA 194 17 (s_invV (dv1 12 162 5) [] 2) := ok_invV (dv1_ok vc_RX12_147_12 rfl (by decide) (hXX 162 (by decide))) (by decide +kernel) rfl
theorem o194_18 : OKp l S b Lx xs dC dI cA 194 18 (s_if (fun x => x ≤ 0) 21) := ok_if_le (off := 9) (by decide +kernel) (by decide +kernel) rfl
theorem o194_19 : OKp l S b Lx xs dC dI cA 194 19 (s_iinc 3 (1)) := ok_iinc (n := 1) (by decide +kernel) (by decide) rfl
theorem o194_20 : OKp l S b Lx xs dC dI cA 194 20 (s_goto 11) := ok_goto (off := -18) (by decide +kernel) (by decide +kernel)
theorem o194_21 : OKp l S b Lx xs dC dI cA 194 21 (s_aload 0) := ok_aload_n (k9 := 0) (by decide +kernel) rfl rfl
theorem o194_22 : OKp l S b Lx xs dC dI cA 194 22 (s_invV (dv1 12 184 1) [] 0) := ok_invV (dv1_ok vc_RX12_196_12 rfl (by decide) (hXX 184 (by decide))) (by decide +kernel) rfl
theorem o194_23 : OKp l S b Lx xs dC dI cA 194 23 (s_iload 3) := ok_iload_n (k9 := 3) (by decide +kernel) rfl rfl
theorem o194_24 : OKp l S b Lx xs dC dI cA 194 24 (s_ret) := ok_ret (by decide +kernel) rfl
theorem a194 (hl9 : l.stackTraces = false) : sm_all (OKp l S b Lx xs dC dI cA 194) 0 sc_194 := ⟨o194_0, o194_1, o194_2, o194_3, o194_4, o194_5, o194_6, o194_7, o194_8, o194_9, o194_10, o194_11, o194_12, o194_13, o194_14, o194_15, o194_16, o194_17, o194_18, o194_19, o194_20, o194_21, o194_22, o194_23, o194_24, trivial⟩
theorem o195_0 : OKp l S b Lx xs dC dI cA 195 0 (s_iload 0) := ok_iload_n (k9 := 0) (by decide +kernel) rfl rfl
theorem o195_1 : OKp l S b Lx xs dC dI cA 195 1 (s_i2l) := ok_i2l (by decide +kernel) rfl
theorem o195_2 : OKp l S b Lx xs dC dI cA 195 2 (s_lconst 0) := ok_lconst (n := 0) (by decide +kernel) (by decide) rfl
theorem o195_3 : OKp l S b Lx xs dC dI cA 195 3 (s_lconst (7)) := ok_ldc2 (k := 53) (by decide +kernel) w_1011 rfl
theorem o195_4 : OKp l S b Lx xs dC dI cA 195 4 (s_invS 139 3 6) := ok_invS rfl rfl (by decide) (hXX 139 (by decide)) w_1012 w_1013 w_61 c_139 (by decide +kernel) (by decide +kernel) rfl
theorem o195_5 : OKp l S b Lx xs dC dI cA 195 5 (s_if (fun x => x = 0) 14) := ok_if_eq (off := 19) (by decide +kernel) (by decide +kernel) rfl
theorem o195_6 : OKp l S b Lx xs dC dI cA 195 6 (s_iload 1) := ok_iload_n (k9 := 1) (by decide +kernel) rfl rfl
theorem o195_7 : OKp l S b Lx xs dC dI cA 195 7 (s_i2l) := ok_i2l (by decide +kernel) rfl
theorem o195_8 : OKp l S b Lx xs dC dI cA 195 8 (s_lconst 0) := ok_lconst (n := 0) (by decide +kernel) (by decide) rfl
theorem o195_9 : OKp l S b Lx xs dC dI cA 195 9 (s_lconst (9)) := ok_ldc2 (k := 218) (by decide +kernel) w_1229 rfl
theorem o195_10 : OKp l S b Lx xs dC dI cA 195 10 (s_invS 139 3 6) := ok_invS rfl rfl (by decide) (hXX 139 (by decide)) w_1012 w_1013 w_61 c_139 (by decide +kernel) (by decide +kernel) rfl
theorem o195_11 : OKp l S b Lx xs dC dI cA 195 11 (s_if (fun x => x = 0) 14) := ok_if_eq (off := 7) (by decide +kernel) (by decide +kernel) rfl
theorem o195_12 : OKp l S b Lx xs dC dI cA 195 12 (s_const (1)) := ok_iconst (n := 1) (by decide +kernel) (by decide) rfl
theorem o195_13 : OKp l S b Lx xs dC dI cA 195 13 (s_goto 15) := ok_goto (off := 4) (by decide +kernel) (by decide +kernel)
theorem o195_14 : OKp l S b Lx xs dC dI cA 195 14 (s_const (0)) := ok_iconst (n := 0) (by decide +kernel) (by decide) rfl
theorem o195_15 : OKp l S b Lx xs dC dI cA 195 15 (s_zret) := ok_zret (by decide +kernel) rfl
theorem a195 (hl9 : l.stackTraces = false) : sm_all (OKp l S b Lx xs dC dI cA 195) 0 sc_195 := ⟨o195_0, o195_1, o195_2, o195_3, o195_4, o195_5, o195_6, o195_7, o195_8, o195_9, o195_10, o195_11, o195_12, o195_13, o195_14, o195_15, trivial⟩
theorem o196_0 : OKp l S b Lx xs dC dI cA 196 0 (s_iload 1) := ok_iload_n (k9 := 1) (by decide +kernel) rfl rfl
theorem o196_1 : OKp l S b Lx xs dC dI cA 196 1 (s_invS 140 1 1) := ok_invS rfl rfl (by decide) (hXX 140 (by decide)) w_1008 w_1009 w_61 c_140 (by decide +kernel) (by decide +kernel) rfl
theorem o196_2 : OKp l S b Lx xs dC dI cA 196 2 (s_if (fun x => x = 0) 7) := ok_if_eq (off := 11) (by decide +kernel) (by decide +kernel) rfl
theorem o196_3 : OKp l S b Lx xs dC dI cA 196 3 (s_iload 2) := ok_iload_n (k9 := 2) (by decide +kernel) rfl rfl
theorem o196_4 : OKp l S b Lx xs dC dI cA 196 4 (s_iload 3) := ok_iload_n (k9 := 3) (by decide +kernel) rfl rfl
theorem o196_5 : OKp l S b Lx xs dC dI cA 196 5 (s_invS 195 2 2) := ok_invS rfl rfl (by decide) (hXX 195 (by decide)) w_1226 w_1227 w_61 c_195 (by decide +kernel) (by decide +kernel) rfl
theorem o196_6 : OKp l S b Lx xs dC dI cA 196 6 (s_if (fun x => x ≠ 0) 9) := ok_if_ne (off := 7) (by decide +kernel) (by decide +kernel) rfl
theorem o196_7 : OKp l S b Lx xs dC dI cA 196 7 (s_const (-1)) := ok_iconst (n := -1) (by decide +kernel) (by decide) rfl
theorem o196_8 : OKp l S b Lx xs dC dI cA 196 8 (s_goto 12) := ok_goto (off := 8) (by decide +kernel) (by decide +kernel)
theorem o196_9 : OKp l S b Lx xs dC dI cA 196 9 (s_aload 0) := ok_aload_n (k9 := 0) (by decide +kernel) rfl rfl
theorem o196_10 : OKp l S b Lx xs dC dI cA 196 10 (s_iload 1) := ok_iload_n (k9 := 1) (by decide +kernel) rfl rfl
theorem o196_11 : OKp l S b Lx xs dC dI cA 196 11 (s_invV (dv1 12 181 4) [] 1) := ok_invV (dv1_ok vc_RX12_181_12 rfl (by decide) (hXX 181 (by decide))) (by decide +kernel) rfl
theorem o196_12 : OKp l S b Lx xs dC dI cA 196 12 (s_istore 4) := ok_istore (by decide +kernel) rfl
theorem o196_13 : OKp l S b Lx xs dC dI cA 196 13 (s_iload 4) := ok_iload (by decide +kernel) rfl
theorem o196_14 : OKp l S b Lx xs dC dI cA 196 14 (s_if (fun x => x = 0) 17) := ok_if_eq (off := 6) (by decide +kernel) (by decide +kernel) rfl
theorem o196_15 : OKp l S b Lx xs dC dI cA 196 15 (s_iload 4) := ok_iload (by decide +kernel) rfl
theorem o196_16 : OKp l S b Lx xs dC dI cA 196 16 (s_ret) := ok_ret (by decide +kernel) rfl
theorem o196_17 : OKp l S b Lx xs dC dI cA 196 17 (s_aload 0) := ok_aload_n (k9 := 0) (by decide +kernel) rfl rfl
theorem o196_18 : OKp l S b Lx xs dC dI cA 196 18 (s_invV (dv1 12 183 1) [] 0) := ok_invV (dv1_ok vc_RX12_184_12 rfl (by decide) (hXX 183 (by decide))) (by decide +kernel) rfl
theorem o196_19 : OKp l S b Lx xs dC dI cA 196 19 (s_const (0)) := ok_iconst (n := 0) (by decide +kernel) (by decide) rfl
theorem o196_20 : OKp l S b Lx xs dC dI cA 196 20 (s_istore 5) := ok_istore (by decide +kernel) rfl
theorem o196_21 : OKp l S b Lx xs dC dI cA 196 21 (s_iload 5) := ok_iload (by decide +kernel) rfl
theorem o196_22 : OKp l S b Lx xs dC dI cA 196 22 (s_aload 0) := ok_aload_n (k9 := 0) (by decide +kernel) rfl rfl
theorem o196_23 : OKp l S b Lx xs dC dI cA 196 23 (s_getR (fun t => t == 12) 0) := ok_getR (by decide +kernel) rfl fd_RX12_9
theorem o196_24 : OKp l S b Lx xs dC dI cA 196 24 (s_const (1)) := ok_iconst (n := 1) (by decide +kernel) (by decide) rfl
theorem o196_25 : OKp l S b Lx xs dC dI cA 196 25 (s_iald) := ok_iald (by decide +kernel) rfl
theorem o196_26 : OKp l S b Lx xs dC dI cA 196 26 (s_icmp (fun x y => y ≤ x) 49) := ok_icmp_ge (off := 37) (by decide +kernel) (by decide +kernel) rfl
theorem o196_27 : OKp l S b Lx xs dC dI cA 196 27 (s_aload 0) := ok_aload_n (k9 := 0) (by decide +kernel) rfl rfl
theorem o196_28 : OKp l S b Lx xs dC dI cA 196 28 (s_getR (fun t => t == 12) 0) := ok_getR (by decide +kernel) rfl fd_RX12_9
theorem o196_29 : OKp l S b Lx xs dC dI cA 196 29 (s_const (75)) := ok_bipush (n := 75) (by decide +kernel) (by decide) rfl
theorem o196_30 : OKp l S b Lx xs dC dI cA 196 30 (s_const (2)) := ok_iconst (n := 2) (by decide +kernel) (by decide) rfl
theorem o196_31 : OKp l S b Lx xs dC dI cA 196 31 (s_iload 5) := ok_iload (by decide +kernel) rfl
theorem o196_32 : OKp l S b Lx xs dC dI cA 196 32 (s_bin g_imul) := ok_imul (by decide +kernel) rfl
theorem o196_33 : OKp l S b Lx xs dC dI cA 196 33 (s_bin g_iadd) := ok_iadd (by decide +kernel) rfl
theorem o196_34 : OKp l S b Lx xs dC dI cA 196 34 (s_iload 2) := ok_iload_n (k9 := 2) (by decide +kernel) rfl rfl
theorem o196_35 : OKp l S b Lx xs dC dI cA 196 35 (s_iast) := ok_iast (by decide +kernel) rfl
theorem o196_36 : OKp l S b Lx xs dC dI cA 196 36 (s_aload 0) := ok_aload_n (k9 := 0) (by decide +kernel) rfl rfl
theorem o196_37 : OKp l S b Lx xs dC dI cA 196 37 (s_getR (fun t => t == 12) 0) := ok_getR (by decide +kernel) rfl fd_RX12_9
theorem o196_38 : OKp l S b Lx xs dC dI cA 196 38 (s_const (75)) := ok_bipush (n := 75) (by decide +kernel) (by decide) rfl
theorem o196_39 : OKp l S b Lx xs dC dI cA 196 39 (s_const (2)) := ok_iconst (n := 2) (by decide +kernel) (by decide) rfl
theorem o196_40 : OKp l S b Lx xs dC dI cA 196 40 (s_iload 5) := ok_iload (by decide +kernel) rfl
theorem o196_41 : OKp l S b Lx xs dC dI cA 196 41 (s_bin g_imul) := ok_imul (by decide +kernel) rfl
theorem o196_42 : OKp l S b Lx xs dC dI cA 196 42 (s_bin g_iadd) := ok_iadd (by decide +kernel) rfl
theorem o196_43 : OKp l S b Lx xs dC dI cA 196 43 (s_const (1)) := ok_iconst (n := 1) (by decide +kernel) (by decide) rfl
theorem o196_44 : OKp l S b Lx xs dC dI cA 196 44 (s_bin g_iadd) := ok_iadd (by decide +kernel) rfl
theorem o196_45 : OKp l S b Lx xs dC dI cA 196 45 (s_iload 3) := ok_iload_n (k9 := 3) (by decide +kernel) rfl rfl
theorem o196_46 : OKp l S b Lx xs dC dI cA 196 46 (s_iast) := ok_iast (by decide +kernel) rfl
theorem o196_47 : OKp l S b Lx xs dC dI cA 196 47 (s_iinc 5 (1)) := ok_iinc (n := 1) (by decide +kernel) (by decide) rfl
theorem o196_48 : OKp l S b Lx xs dC dI cA 196 48 (s_goto 21) := ok_goto (off := -42) (by decide +kernel) (by decide +kernel)
theorem o196_49 : OKp l S b Lx xs dC dI cA 196 49 (s_aload 0) := ok_aload_n (k9 := 0) (by decide +kernel) rfl rfl
theorem o196_50 : OKp l S b Lx xs dC dI cA 196 50 (s_iload 1) := ok_iload_n (k9 := 1) (by decide +kernel) rfl rfl
theorem o196_51 : OKp l S b Lx xs dC dI cA 196 51 (s_const (-4)) := ok_bipush (n := -4) (by decide +kernel) (by decide) rfl
theorem o196_52 : OKp l S b Lx xs dC dI cA 196 52 (s_invV (dv1 12 185 6) [] 2) := ok_invV (dv1_ok vc_RX12_187_12 rfl (by decide) (hXX 185 (by decide))) (by decide +kernel) rfl
theorem o196_53 : OKp l S b Lx xs dC dI cA 196 53 (s_istore 5) := ok_istore (by decide +kernel) rfl
theorem o196_54 : OKp l S b Lx xs dC dI cA 196 54 (s_aload 0) := ok_aload_n (k9 := 0) (by decide +kernel) rfl rfl
theorem o196_55 : OKp l S b Lx xs dC dI cA 196 55 (s_invV (dv1 12 184 1) [] 0) := ok_invV (dv1_ok vc_RX12_196_12 rfl (by decide) (hXX 184 (by decide))) (by decide +kernel) rfl
theorem o196_56 : OKp l S b Lx xs dC dI cA 196 56 (s_iload 5) := ok_iload (by decide +kernel) rfl
theorem o196_57 : OKp l S b Lx xs dC dI cA 196 57 (s_ret) := ok_ret (by decide +kernel) rfl
theorem a196 (hl9 : l.stackTraces = false) : sm_all (OKp l S b Lx xs dC dI cA 196) 0 sc_196 := ⟨o196_0, o196_1, o196_2, o196_3, o196_4, o196_5, o196_6, o196_7, o196_8, o196_9, o196_10, o196_11, o196_12, o196_13, o196_14, o196_15, o196_16, o196_17, o196_18, o196_19, o196_20, o196_21, o196_22, o196_23, o196_24, o196_25, o196_26, o196_27, o196_28, o196_29, o196_30, o196_31, o196_32, o196_33, o196_34, o196_35, o196_36, o196_37, o196_38, o196_39, o196_40, o196_41, o196_42, o196_43, o196_44, o196_45, o196_46, o196_47, o196_48, o196_49, o196_50, o196_51, o196_52, o196_53, o196_54, o196_55, o196_56, o196_57, trivial⟩
theorem o197_0 : OKp l S b Lx xs dC dI cA 197 0 (s_aload 0) := ok_aload_n (k9 := 0) (by decide +kernel) rfl rfl
theorem o197_1 : OKp l S b Lx xs dC dI cA 197 1 (s_iload 1) := ok_iload_n (k9 := 1) (by decide +kernel) rfl rfl
theorem o197_2 : OKp l S b Lx xs dC dI cA 197 2 (s_invV (dv1 12 142 2) [] 1) := ok_invV (dv1_ok vc_RX12_144_12 rfl (by decide) (hXX 142 (by decide))) (by decide +kernel) rfl
theorem o197_3 : OKp l S b Lx xs dC dI cA 197 3 (s_if (fun x => x = 0) 8) := ok_if_eq (off := 11) (by decide +kernel) (by decide +kernel) rfl
theorem o197_4 : OKp l S b Lx xs dC dI cA 197 4 (s_aload 0) := ok_aload_n (k9 := 0) (by decide +kernel) rfl rfl
theorem o197_5 : OKp l S b Lx xs dC dI cA 197 5 (s_iload 2) := ok_iload_n (k9 := 2) (by decide +kernel) rfl rfl
theorem o197_6 : OKp l S b Lx xs dC dI cA 197 6 (s_invV (dv1 12 181 4) [] 1) := ok_invV (dv1_ok vc_RX12_181_12 rfl (by decide) (hXX 181 (by decide))) (by decide +kernel) rfl
theorem o197_7 : OKp l S b Lx xs dC dI cA 197 7 (s_goto 9) := ok_goto (off := 4) (by decide +kernel) (by decide +kernel)
theorem o197_8 : OKp l S b Lx xs dC dI cA 197 8 (s_const (-1)) := ok_iconst (n := -1) (by decide +kernel) (by decide) rfl
theorem o197_9 : OKp l S b Lx xs dC dI cA 197 9 (s_istore 3) := ok_istore_n (k9 := 3) (by decide +kernel) rfl rfl
theorem o197_10 : OKp l S b Lx xs dC dI cA 197 10 (s_iload 3) := ok_iload_n (k9 := 3) (by decide +kernel) rfl rfl
theorem o197_11 : OKp l S b Lx xs dC dI cA 197 11 (s_if (fun x => x = 0) 14) := ok_if_eq (off := 5) (by decide +kernel) (by decide +kernel) rfl
theorem o197_12 : OKp l S b Lx xs dC dI cA 197 12 (s_iload 3) := ok_iload_n (k9 := 3) (by decide +kernel) rfl rfl
theorem o197_13 : OKp l S b Lx xs dC dI cA 197 13 (s_ret) := ok_ret (by decide +kernel) rfl
theorem o197_14 : OKp l S b Lx xs dC dI cA 197 14 (s_aload 0) := ok_aload_n (k9 := 0) (by decide +kernel) rfl rfl
theorem o197_15 : OKp l S b Lx xs dC dI cA 197 15 (s_invV (dv1 12 183 1) [] 0) := ok_invV (dv1_ok vc_RX12_184_12 rfl (by decide) (hXX 183 (by decide))) (by decide +kernel) rfl
theorem o197_16 : OKp l S b Lx xs dC dI cA 197 16 (s_aload 0) := ok_aload_n (k9 := 0) (by decide +kernel) rfl rfl
theorem o197_17 : OKp l S b Lx xs dC dI cA 197 17 (s_iload 2) := ok_iload_n (k9 := 2) (by decide +kernel) rfl rfl
theorem o197_18 : OKp l S b Lx xs dC dI cA 197 18 (s_iload 1) := ok_iload_n (k9 := 1) (by decide +kernel) rfl rfl
theorem o197_19 : OKp l S b Lx xs dC dI cA 197 19 (s_invV (dv1 12 185 6) [] 2) := ok_invV (dv1_ok vc_RX12_187_12 rfl (by decide) (hXX 185 (by decide))) (by decide +kernel) rfl
theorem o197_20 : OKp l S b Lx xs dC dI cA 197 20 (s_istore 4) := ok_istore (by decide +kernel) rfl
theorem o197_21 : OKp l S b Lx xs dC dI cA 197 21 (s_aload 0) := ok_aload_n (k9 := 0) (by decide +kernel) rfl rfl
theorem o197_22 : OKp l S b Lx xs dC dI cA 197 22 (s_invV (dv1 12 184 1) [] 0) := ok_invV (dv1_ok vc_RX12_196_12 rfl (by decide) (hXX 184 (by decide))) (by decide +kernel) rfl
theorem o197_23 : OKp l S b Lx xs dC dI cA 197 23 (s_iload 4) := ok_iload (by decide +kernel) rfl
theorem o197_24 : OKp l S b Lx xs dC dI cA 197 24 (s_ret) := ok_ret (by decide +kernel) rfl
theorem a197 (hl9 : l.stackTraces = false) : sm_all (OKp l S b Lx xs dC dI cA 197) 0 sc_197 := ⟨o197_0, o197_1, o197_2, o197_3, o197_4, o197_5, o197_6, o197_7, o197_8, o197_9, o197_10, o197_11, o197_12, o197_13, o197_14, o197_15, o197_16, o197_17, o197_18, o197_19, o197_20, o197_21, o197_22, o197_23, o197_24, trivial⟩
theorem o198_0 : OKp l S b Lx xs dC dI cA 198 0 (s_aload 0) := ok_aload_n (k9 := 0) (by decide +kernel) rfl rfl
theorem o198_1 : OKp l S b Lx xs dC dI cA 198 1 (s_iload 1) := ok_iload_n (k9 := 1) (by decide +kernel) rfl rfl
theorem o198_2 : OKp l S b Lx xs dC dI cA 198 2 (s_iload 2) := ok_iload_n (k9 := 2) (by decide +kernel) rfl rfl
theorem o198_3 : OKp l S b Lx xs dC dI cA 198 3 (s_invV (dv1 12 176 3) [] 2) := ok_invV (dv1_ok vc_RX12_178_12 rfl (by decide) (hXX 176 (by decide))) (by decide +kernel) rfl
theorem o198_4 : OKp l S b Lx xs dC dI cA 198 4 (s_if (fun x => x = 0) 10) := ok_if_eq (off := 12) (by decide +kernel) (by decide +kernel) rfl
theorem o198_5 : OKp l S b Lx xs dC dI cA 198 5 (s_aload 0) := ok_aload_n (k9 := 0) (by decide +kernel) rfl rfl
theorem o198_6 : OKp l S b Lx xs dC dI cA 198 6 (s_iload 1) := ok_iload_n (k9 := 1) (by decide +kernel) rfl rfl
theorem o198_7 : OKp l S b Lx xs dC dI cA 198 7 (s_iload 2) := ok_iload_n (k9 := 2) (by decide +kernel) rfl rfl
theorem o198_8 : OKp l S b Lx xs dC dI cA 198 8 (s_invV (dv1 12 172 5) [] 2) := ok_invV (dv1_ok vc_RX12_172_12 rfl (by decide) (hXX 172 (by decide))) (by decide +kernel) rfl
theorem o198_9 : OKp l S b Lx xs dC dI cA 198 9 (s_goto 11) := ok_goto (off := 4) (by decide +kernel) (by decide +kernel)
theorem o198_10 : OKp l S b Lx xs dC dI cA 198 10 (s_const (-1)) := ok_iconst (n := -1) (by decide +kernel) (by decide) rfl
theorem o198_11 : OKp l S b Lx xs dC dI cA 198 11 (s_ret) := ok_ret (by decide +kernel) rfl
theorem a198 (hl9 : l.stackTraces = false) : sm_all (OKp l S b Lx xs dC dI cA 198) 0 sc_198 := ⟨o198_0, o198_1, o198_2, o198_3, o198_4, o198_5, o198_6, o198_7, o198_8, o198_9, o198_10, o198_11, trivial⟩
theorem o199_0 : OKp l S b Lx xs dC dI cA 199 0 (s_aload 0) := ok_aload_n (k9 := 0) (by decide +kernel) rfl rfl
theorem o199_1 : OKp l S b Lx xs dC dI cA 199 1 (s_iload 1) := ok_iload_n (k9 := 1) (by decide +kernel) rfl rfl
theorem o199_2 : OKp l S b Lx xs dC dI cA 199 2 (s_invV (dv1 12 141 2) [] 1) := ok_invV (dv1_ok vc_RX12_59_12 rfl (by decide) (hXX 141 (by decide))) (by decide +kernel) rfl
theorem o199_3 : OKp l S b Lx xs dC dI cA 199 3 (s_if (fun x => x ≠ 0) 6) := ok_if_ne (off := 5) (by decide +kernel) (by decide +kernel) rfl
theorem o199_4 : OKp l S b Lx xs dC dI cA 199 4 (s_const (-1)) := ok_iconst (n := -1) (by decide +kernel) (by decide) rfl
theorem o199_5 : OKp l S b Lx xs dC dI cA 199 5 (s_ret) := ok_ret (by decide +kernel) rfl
theorem o199_6 : OKp l S b Lx xs dC dI cA 199 6 (s_const (0)) := ok_iconst (n := 0) (by decide +kernel) (by decide) rfl
theorem o199_7 : OKp l S b Lx xs dC dI cA 199 7 (s_istore 2) := ok_istore_n (k9 := 2) (by decide +kernel) rfl rfl
theorem o199_8 : OKp l S b Lx xs dC dI cA 199 8 (s_aload 0) := ok_aload_n (k9 := 0) (by decide +kernel) rfl rfl
theorem o199_9 : OKp l S b Lx xs dC dI cA 199 9 (s_iload 1) := ok_iload_n (k9 := 1) (by decide +kernel) rfl rfl
theorem o199_10 : OKp l S b Lx xs dC dI cA 199 10 (s_invV (dv1 12 144 2) [] 1) := ok_invV (dv1_ok vc_RX12_67_12 rfl (by decide) (hXX 144 (by decide))) (by decide +kernel) rfl
theorem o199_11 : OKp l S b Lx xs dC dI cA 199 11 (s_istore 3) := ok_istore_n (k9 := 3) (by decide +kernel) rfl rfl
theorem o199_12 : OKp l S b Lx xs dC dI cA 199 12 (s_const (0)) := ok_iconst (n := 0) (by decide +kernel) (by decide) rfl
theorem o199_13 : OKp l S b Lx xs dC dI cA 199 13 (s_istore 4) := ok_istore (by decide +kernel) rfl
theorem o199_14 : OKp l S b Lx xs dC dI cA 199 14 (s_iload 4) := ok_iload (by decide +kernel) rfl
theorem o199_15 : OKp l S b Lx xs dC dI cA 199 15 (s_aload 0) := ok_aload_n (k9 := 0) (by decide +kernel) rfl rfl
theorem o199_16 : OKp l S b Lx xs dC dI cA 199 16 (s_getR (fun t => t == 12) 0) := ok_getR (by decide +kernel) rfl fd_RX12_9
theorem o199_17 : OKp l S b Lx xs dC dI cA 199 17 (s_const (1)) := ok_iconst (n := 1) (by decide +kernel) (by decide) rfl
theorem o199_18 : OKp l S b Lx xs dC dI cA 199 18 (s_iald) := ok_iald (by decide +kernel) rfl
theorem o199_19 : OKp l S b Lx xs dC dI cA 199 19 (s_icmp (fun x y => y ≤ x) 41) := ok_icmp_ge (off := 39) (by decide +kernel) (by decide +kernel) rfl
theorem o199_20 : OKp l S b Lx xs dC dI cA 199 20 (s_aload 0) := ok_aload_n (k9 := 0) (by decide +kernel) rfl rfl
theorem o199_21 : OKp l S b Lx xs dC dI cA 199 21 (s_iload 4) := ok_iload (by decide +kernel) rfl
theorem o199_22 : OKp l S b Lx xs dC dI cA 199 22 (s_iload 1) := ok_iload_n (k9 := 1) (by decide +kernel) rfl rfl
theorem o199_23 : OKp l S b Lx xs dC dI cA 199 23 (s_invV (dv1 12 172 5) [] 2) := ok_invV (dv1_ok vc_RX12_172_12 rfl (by decide) (hXX 172 (by decide))) (by decide +kernel) rfl
theorem o199_24 : OKp l S b Lx xs dC dI cA 199 24 (s_istore 5) := ok_istore (by decide +kernel) rfl
theorem o199_25 : OKp l S b Lx xs dC dI cA 199 25 (s_iload 3) := ok_iload_n (k9 := 3) (by decide +kernel) rfl rfl
theorem o199_26 : OKp l S b Lx xs dC dI cA 199 26 (s_iload 5) := ok_iload (by decide +kernel) rfl
theorem o199_27 : OKp l S b Lx xs dC dI cA 199 27 (s_bin g_ior) := ok_ior (by decide +kernel) rfl
theorem o199_28 : OKp l S b Lx xs dC dI cA 199 28 (s_istore 3) := ok_istore_n (k9 := 3) (by decide +kernel) rfl rfl
theorem o199_29 : OKp l S b Lx xs dC dI cA 199 29 (s_iload 2) := ok_iload_n (k9 := 2) (by decide +kernel) rfl rfl
theorem o199_30 : OKp l S b Lx xs dC dI cA 199 30 (s_iload 5) := ok_iload (by decide +kernel) rfl
theorem o199_31 : OKp l S b Lx xs dC dI cA 199 31 (s_if (fun x => x = 0) 36) := ok_if_eq (off := 10) (by decide +kernel) (by decide +kernel) rfl
theorem o199_32 : OKp l S b Lx xs dC dI cA 199 32 (s_const (1)) := ok_iconst (n := 1) (by decide +kernel) (by decide) rfl
theorem o199_33 : OKp l S b Lx xs dC dI cA 199 33 (s_iload 4) := ok_iload (by decide +kernel) rfl
theorem o199_34 : OKp l S b Lx xs dC dI cA 199 34 (s_bin g_ishl) := ok_ishl (by decide +kernel) rfl
theorem o199_35 : OKp l S b Lx xs dC dI cA 199 35 (s_goto 37) := ok_goto (off := 4) (by decide +kernel) (by decide +kernel)
theorem o199_36 : OKp l S b Lx xs dC dI cA 199 36 (s_const (0)) := ok_iconst (n := 0) (by decide +kernel) (by decide) rfl
theorem o199_37 : OKp l S b Lx xs dC dI cA 199 37 (s_bin g_ior) := ok_ior (by decide +kernel) rfl
theorem o199_38 : OKp l S b Lx xs dC dI cA 199 38 (s_istore 2) := ok_istore_n (k9 := 2) (by decide +kernel) rfl rfl
theorem o199_39 : OKp l S b Lx xs dC dI cA 199 39 (s_iinc 4 (1)) := ok_iinc (n := 1) (by decide +kernel) (by decide) rfl
theorem o199_40 : OKp l S b Lx xs dC dI cA 199 40 (s_goto 14) := ok_goto (off := -44) (by decide +kernel) (by decide +kernel)
theorem o199_41 : OKp l S b Lx xs dC dI cA 199 41 (s_iload 3) := ok_iload_n (k9 := 3) (by decide +kernel) rfl rfl
theorem o199_42 : OKp l S b Lx xs dC dI cA 199 42 (s_const (1)) := ok_iconst (n := 1) (by decide +kernel) (by decide) rfl
theorem o199_43 : OKp l S b Lx xs dC dI cA 199 43 (s_aload 0) := ok_aload_n (k9 := 0) (by decide +kernel) rfl rfl
theorem o199_44 : OKp l S b Lx xs dC dI cA 199 44 (s_iload 1) := ok_iload_n (k9 := 1) (by decide +kernel) rfl rfl
theorem o199_45 : OKp l S b Lx xs dC dI cA 199 45 (s_invV (dv1 12 143 2) [] 1) := ok_invV (dv1_ok vc_RX12_63_12 rfl (by decide) (hXX 143 (by decide))) (by decide +kernel) rfl
theorem o199_46 : OKp l S b Lx xs dC dI cA 199 46 (s_bin g_ishl) := ok_ishl (by decide +kernel) rfl
theorem o199_47 : OKp l S b Lx xs dC dI cA 199 47 (s_const (1)) := ok_iconst (n := 1) (by decide +kernel) (by decide) rfl
theorem o199_48 : OKp l S b Lx xs dC dI cA 199 48 (s_bin g_isub) := ok_isub (by decide +kernel) rfl
theorem o199_49 : OKp l S b Lx xs dC dI cA 199 49 (s_icmp (fun x y => x ≠ y) 52) := ok_icmp_ne (off := 7) (by decide +kernel) (by decide +kernel) rfl
theorem o199_50 : OKp l S b Lx xs dC dI cA 199 50 (s_iload 2) := ok_iload_n (k9 := 2) (by decide +kernel) rfl rfl
theorem o199_51 : OKp l S b Lx xs dC dI cA 199 51 (s_goto 53) := ok_goto (off := 5) (by decide +kernel) (by decide +kernel)
theorem o199_52 : OKp l S b Lx xs dC dI cA 199 52 (s_const (-4)) := ok_bipush (n := -4) (by decide +kernel) (by decide) rfl
theorem o199_53 : OKp l S b Lx xs dC dI cA 199 53 (s_ret) := ok_ret (by decide +kernel) rfl
theorem a199 (hl9 : l.stackTraces = false) : sm_all (OKp l S b Lx xs dC dI cA 199) 0 sc_199 := ⟨o199_0, o199_1, o199_2, o199_3, o199_4, o199_5, o199_6, o199_7, o199_8, o199_9, o199_10, o199_11, o199_12, o199_13, o199_14, o199_15, o199_16, o199_17, o199_18, o199_19, o199_20, o199_21, o199_22, o199_23, o199_24, o199_25, o199_26, o199_27, o199_28, o199_29, o199_30, o199_31, o199_32, o199_33, o199_34, o199_35, o199_36, o199_37, o199_38, o199_39, o199_40, o199_41, o199_42, o199_43, o199_44, o199_45, o199_46, o199_47, o199_48, o199_49, o199_50, o199_51, o199_52, o199_53, trivial⟩
theorem o200_0 : OKp l S b Lx xs dC dI cA 200 0 (s_aload 0) := ok_aload_n (k9 := 0) (by decide +kernel) rfl rfl
theorem o200_1 : OKp l S b Lx xs dC dI cA 200 1 (s_iload 1) := ok_iload_n (k9 := 1) (by decide +kernel) rfl rfl
theorem o200_2 : OKp l S b Lx xs dC dI cA 200 2 (s_invV (dv1 12 141 2) [] 1) := ok_invV (dv1_ok vc_RX12_59_12 rfl (by decide) (hXX 141 (by decide))) (by decide +kernel) rfl
theorem o200_3 : OKp l S b Lx xs dC dI cA 200 3 (s_if (fun x => x = 0) 11) := ok_if_eq (off := 16) (by decide +kernel) (by decide +kernel) rfl
theorem o200_4 : OKp l S b Lx xs dC dI cA 200 4 (s_aload 0) := ok_aload_n (k9 := 0) (by decide +kernel) rfl rfl
theorem o200_5 : OKp l S b Lx xs dC dI cA 200 5 (s_iload 2) := ok_iload_n (k9 := 2) (by decide +kernel) rfl rfl
theorem o200_6 : OKp l S b Lx xs dC dI cA 200 6 (s_invV (dv1 12 141 2) [] 1) := ok_invV (dv1_ok vc_RX12_59_12 rfl (by decide) (hXX 141 (by decide))) (by decide +kernel) rfl
theorem o200_7 : OKp l S b Lx xs dC dI cA 200 7 (s_if (fun x => x = 0) 11) := ok_if_eq (off := 8) (by decide +kernel) (by decide +kernel) rfl
theorem o200_8 : OKp l S b Lx xs dC dI cA 200 8 (s_iload 1) := ok_iload_n (k9 := 1) (by decide +kernel) rfl rfl
theorem o200_9 : OKp l S b Lx xs dC dI cA 200 9 (s_iload 2) := ok_iload_n (k9 := 2) (by decide +kernel) rfl rfl
theorem o200_10 : OKp l S b Lx xs dC dI cA 200 10 (s_icmp (fun x y => x ≠ y) 13) := ok_icmp_ne (off := 7) (by decide +kernel) (by decide +kernel) rfl
theorem o200_11 : OKp l S b Lx xs dC dI cA 200 11 (s_const (-1)) := ok_iconst (n := -1) (by decide +kernel) (by decide) rfl
theorem o200_12 : OKp l S b Lx xs dC dI cA 200 12 (s_goto 29) := ok_goto (off := 32) (by decide +kernel) (by decide +kernel)
theorem o200_13 : OKp l S b Lx xs dC dI cA 200 13 (s_aload 0) := ok_aload_n (k9 := 0) (by decide +kernel) rfl rfl
theorem o200_14 : OKp l S b Lx xs dC dI cA 200 14 (s_iload 1) := ok_iload_n (k9 := 1) (by decide +kernel) rfl rfl
theorem o200_15 : OKp l S b Lx xs dC dI cA 200 15 (s_invV (dv1 12 143 2) [] 1) := ok_invV (dv1_ok vc_RX12_63_12 rfl (by decide) (hXX 143 (by decide))) (by decide +kernel) rfl
theorem o200_16 : OKp l S b Lx xs dC dI cA 200 16 (s_aload 0) := ok_aload_n (k9 := 0) (by decide +kernel) rfl rfl
theorem o200_17 : OKp l S b Lx xs dC dI cA 200 17 (s_iload 2) := ok_iload_n (k9 := 2) (by decide +kernel) rfl rfl
theorem o200_18 : OKp l S b Lx xs dC dI cA 200 18 (s_invV (dv1 12 143 2) [] 1) := ok_invV (dv1_ok vc_RX12_63_12 rfl (by decide) (hXX 143 (by decide))) (by decide +kernel) rfl
theorem o200_19 : OKp l S b Lx xs dC dI cA 200 19 (s_icmp (fun x y => x ≠ y) 28) := ok_icmp_ne (off := 17) (by decide +kernel) (by decide +kernel) rfl
theorem o200_20 : OKp l S b Lx xs dC dI cA 200 20 (s_aload 0) := ok_aload_n (k9 := 0) (by decide +kernel) rfl rfl
theorem o200_21 : OKp l S b Lx xs dC dI cA 200 21 (s_iload 1) := ok_iload_n (k9 := 1) (by decide +kernel) rfl rfl
theorem o200_22 : OKp l S b Lx xs dC dI cA 200 22 (s_invV (dv1 12 144 2) [] 1) := ok_invV (dv1_ok vc_RX12_67_12 rfl (by decide) (hXX 144 (by decide))) (by decide +kernel) rfl
theorem o200_23 : OKp l S b Lx xs dC dI cA 200 23 (s_aload 0) := ok_aload_n (k9 := 0) (by decide +kernel) rfl rfl
theorem o200_24 : OKp l S b Lx xs dC dI cA 200 24 (s_iload 2) := ok_iload_n (k9 := 2) (by decide +kernel) rfl rfl
theorem o200_25 : OKp l S b Lx xs dC dI cA 200 25 (s_invV (dv1 12 144 2) [] 1) := ok_invV (dv1_ok vc_RX12_67_12 rfl (by decide) (hXX 144 (by decide))) (by decide +kernel) rfl
theorem o200_26 : OKp l S b Lx xs dC dI cA 200 26 (s_bin g_ior) := ok_ior (by decide +kernel) rfl
theorem o200_27 : OKp l S b Lx xs dC dI cA 200 27 (s_goto 29) := ok_goto (off := 5) (by decide +kernel) (by decide +kernel)
theorem o200_28 : OKp l S b Lx xs dC dI cA 200 28 (s_const (-4)) := ok_bipush (n := -4) (by decide +kernel) (by decide) rfl
theorem o200_29 : OKp l S b Lx xs dC dI cA 200 29 (s_ret) := ok_ret (by decide +kernel) rfl
theorem a200 (hl9 : l.stackTraces = false) : sm_all (OKp l S b Lx xs dC dI cA 200) 0 sc_200 := ⟨o200_0, o200_1, o200_2, o200_3, o200_4, o200_5, o200_6, o200_7, o200_8, o200_9, o200_10, o200_11, o200_12, o200_13, o200_14, o200_15, o200_16, o200_17, o200_18, o200_19, o200_20, o200_21, o200_22, o200_23, o200_24, o200_25, o200_26, o200_27, o200_28, o200_29, trivial⟩
theorem o201_0 : OKp l S b Lx xs dC dI cA 201 0 (s_aload 0) := ok_aload_n (k9 := 0) (by decide +kernel) rfl rfl
theorem o201_1 : OKp l S b Lx xs dC dI cA 201 1 (s_iload 1) := ok_iload_n (k9 := 1) (by decide +kernel) rfl rfl
theorem o201_2 : OKp l S b Lx xs dC dI cA 201 2 (s_const (1)) := ok_iconst (n := 1) (by decide +kernel) (by decide) rfl
theorem o201_3 : OKp l S b Lx xs dC dI cA 201 3 (s_aload 0) := ok_aload_n (k9 := 0) (by decide +kernel) rfl rfl
theorem o201_4 : OKp l S b Lx xs dC dI cA 201 4 (s_iload 1) := ok_iload_n (k9 := 1) (by decide +kernel) rfl rfl
theorem o201_5 : OKp l S b Lx xs dC dI cA 201 5 (s_invV (dv1 12 143 2) [] 1) := ok_invV (dv1_ok vc_RX12_63_12 rfl (by decide) (hXX 143 (by decide))) (by decide +kernel) rfl
theorem o201_6 : OKp l S b Lx xs dC dI cA 201 6 (s_bin g_ishl) := ok_ishl (by decide +kernel) rfl
theorem o201_7 : OKp l S b Lx xs dC dI cA 201 7 (s_const (1)) := ok_iconst (n := 1) (by decide +kernel) (by decide) rfl
theorem o201_8 : OKp l S b Lx xs dC dI cA 201 8 (s_bin g_isub) := ok_isub (by decide +kernel) rfl
theorem o201_9 : OKp l S b Lx xs dC dI cA 201 9 (s_invV (dv1 12 145 3) [] 2) := ok_invV (dv1_ok vc_RX12_104_12 rfl (by decide) (hXX 145 (by decide))) (by decide +kernel) rfl
theorem o201_10 : OKp l S b Lx xs dC dI cA 201 10 (s_vret) := ok_vret (by decide +kernel) rfl
theorem a201 (hl9 : l.stackTraces = false) : sm_all (OKp l S b Lx xs dC dI cA 201) 0 sc_201 := ⟨o201_0, o201_1, o201_2, o201_3, o201_4, o201_5, o201_6, o201_7, o201_8, o201_9, o201_10, trivial⟩
theorem o202_0 : OKp l S b Lx xs dC dI cA 202 0 (s_aload 0) := ok_aload_n (k9 := 0) (by decide +kernel) rfl rfl
theorem o202_1 : OKp l S b Lx xs dC dI cA 202 1 (s_iload 1) := ok_iload_n (k9 := 1) (by decide +kernel) rfl rfl
theorem o202_2 : OKp l S b Lx xs dC dI cA 202 2 (s_iload 2) := ok_iload_n (k9 := 2) (by decide +kernel) rfl rfl
theorem o202_3 : OKp l S b Lx xs dC dI cA 202 3 (s_iload 3) := ok_iload_n (k9 := 3) (by decide +kernel) rfl rfl
theorem o202_4 : OKp l S b Lx xs dC dI cA 202 4 (s_invV (dv1 12 190 4) [] 3) := ok_invV (dv1_ok vc_RX12_212_12 rfl (by decide) (hXX 190 (by decide))) (by decide +kernel) rfl
theorem o202_5 : OKp l S b Lx xs dC dI cA 202 5 (s_istore 4) := ok_istore (by decide +kernel) rfl
theorem o202_6 : OKp l S b Lx xs dC dI cA 202 6 (s_iload 4) := ok_iload (by decide +kernel) rfl
theorem o202_7 : OKp l S b Lx xs dC dI cA 202 7 (s_if (fun x => x = 0) 10) := ok_if_eq (off := 6) (by decide +kernel) (by decide +kernel) rfl
theorem o202_8 : OKp l S b Lx xs dC dI cA 202 8 (s_iload 4) := ok_iload (by decide +kernel) rfl
theorem o202_9 : OKp l S b Lx xs dC dI cA 202 9 (s_ret) := ok_ret (by decide +kernel) rfl
theorem o202_10 : OKp l S b Lx xs dC dI cA 202 10 (s_aload 0) := ok_aload_n (k9 := 0) (by decide +kernel) rfl rfl
theorem o202_11 : OKp l S b Lx xs dC dI cA 202 11 (s_iload 1) := ok_iload_n (k9 := 1) (by decide +kernel) rfl rfl
theorem o202_12 : OKp l S b Lx xs dC dI cA 202 12 (s_invV (dv1 12 144 2) [] 1) := ok_invV (dv1_ok vc_RX12_67_12 rfl (by decide) (hXX 144 (by decide))) (by decide +kernel) rfl
theorem o202_13 : OKp l S b Lx xs dC dI cA 202 13 (s_istore 5) := ok_istore (by decide +kernel) rfl
theorem o202_14 : OKp l S b Lx xs dC dI cA 202 14 (s_const (0)) := ok_iconst (n := 0) (by decide +kernel) (by decide) rfl
theorem o202_15 : OKp l S b Lx xs dC dI cA 202 15 (s_istore 6) := ok_istore (by decide +kernel) rfl
theorem o202_16 : OKp l S b Lx xs dC dI cA 202 16 (s_const (-4)) := ok_bipush (n := -4) (by decide +kernel) (by decide) rfl
theorem o202_17 : OKp l S b Lx xs dC dI cA 202 17 (s_istore 7) := ok_istore (by decide +kernel) rfl
theorem o202_18 : OKp l S b Lx xs dC dI cA 202 18 (s_aload 0) := ok_aload_n (k9 := 0) (by decide +kernel) rfl rfl
theorem o202_19 : OKp l S b Lx xs dC dI cA 202 19 (s_invV (dv1 12 183 1) [] 0) := ok_invV (dv1_ok vc_RX12_184_12 rfl (by decide) (hXX 183 (by decide))) (by decide +kernel) rfl
theorem o202_20 : OKp l S b Lx xs dC dI cA 202 20 (s_const (0)) := ok_iconst (n := 0) (by decide +kernel) (by decide) rfl
theorem o202_21 : OKp l S b Lx xs dC dI cA 202 21 (s_istore 8) := ok_istore (by decide +kernel) rfl
theorem o202_22 : OKp l S b Lx xs dC dI cA 202 22 (s_iload 8) := ok_iload (by decide +kernel) rfl
theorem o202_23 : OKp l S b Lx xs dC dI cA 202 23 (s_aload 0) := ok_aload_n (k9 := 0) (by decide +kernel) rfl rfl
theorem o202_24 : OKp l S b Lx xs dC dI cA 202 24 (s_getR (fun t => t == 12) 6) := ok_getR (by decide +kernel) rfl fd_RX12_28
theorem o202_25 : OKp l S b Lx xs dC dI cA 202 25 (s_iload 2) := ok_iload_n (k9 := 2) (by decide +kernel) rfl rfl
theorem o202_26 : OKp l S b Lx xs dC dI cA 202 26 (s_iald) := ok_iald (by decide +kernel) rfl
theorem o202_27 : OKp l S b Lx xs dC dI cA 202 27 (s_icmp (fun x y => y ≤ x) 66) := ok_icmp_ge (off := 79) (by decide +kernel) (by decide +kernel) rfl
theorem o202_28 : OKp l S b Lx xs dC dI cA 202 28 (s_aload 0) := ok_aload_n (k9 := 0) (by decide +kernel) rfl rfl
theorem o202_29 : OKp l S b Lx xs dC dI cA 202 29 (s_iload 1) := ok_iload_n (k9 := 1) (by decide +kernel) rfl rfl
theorem o202_30 : OKp l S b Lx xs dC dI cA 202 30 (s_invV (dv1 12 201 2) [] 1) := ok_invV (dv1_ok vc_RX12_223_12 rfl (by decide) (hXX 201 (by decide))) (by decide +kernel) rfl
theorem o202_31 : OKp l S b Lx xs dC dI cA 202 31 (s_aload 0) := ok_aload_n (k9 := 0) (by decide +kernel) rfl rfl
theorem o202_32 : OKp l S b Lx xs dC dI cA 202 32 (s_aload 0) := ok_aload_n (k9 := 0) (by decide +kernel) rfl rfl
theorem o202_33 : OKp l S b Lx xs dC dI cA 202 33 (s_getR (fun t => t == 12) 7) := ok_getR (by decide +kernel) rfl fd_RX12_31
theorem o202_34 : OKp l S b Lx xs dC dI cA 202 34 (s_const (100)) := ok_bipush (n := 100) (by decide +kernel) (by decide) rfl
theorem o202_35 : OKp l S b Lx xs dC dI cA 202 35 (s_iload 2) := ok_iload_n (k9 := 2) (by decide +kernel) rfl rfl
theorem o202_36 : OKp l S b Lx xs dC dI cA 202 36 (s_bin g_imul) := ok_imul (by decide +kernel) rfl
theorem o202_37 : OKp l S b Lx xs dC dI cA 202 37 (s_iload 8) := ok_iload (by decide +kernel) rfl
theorem o202_38 : OKp l S b Lx xs dC dI cA 202 38 (s_bin g_iadd) := ok_iadd (by decide +kernel) rfl
theorem o202_39 : OKp l S b Lx xs dC dI cA 202 39 (s_iald) := ok_iald (by decide +kernel) rfl
theorem o202_40 : OKp l S b Lx xs dC dI cA 202 40 (s_iload 1) := ok_iload_n (k9 := 1) (by decide +kernel) rfl rfl
theorem o202_41 : OKp l S b Lx xs dC dI cA 202 41 (s_invV (dv1 12 162 5) [] 2) := ok_invV (dv1_ok vc_RX12_147_12 rfl (by decide) (hXX 162 (by decide))) (by decide +kernel) rfl
theorem o202_42 : OKp l S b Lx xs dC dI cA 202 42 (s_istore 9) := ok_istore (by decide +kernel) rfl
theorem o202_43 : OKp l S b Lx xs dC dI cA 202 43 (s_aload 0) := ok_aload_n (k9 := 0) (by decide +kernel) rfl rfl
theorem o202_44 : OKp l S b Lx xs dC dI cA 202 44 (s_iload 1) := ok_iload_n (k9 := 1) (by decide +kernel) rfl rfl
theorem o202_45 : OKp l S b Lx xs dC dI cA 202 45 (s_invV (dv1 12 144 2) [] 1) := ok_invV (dv1_ok vc_RX12_67_12 rfl (by decide) (hXX 144 (by decide))) (by decide +kernel) rfl
theorem o202_46 : OKp l S b Lx xs dC dI cA 202 46 (s_iload 5) := ok_iload (by decide +kernel) rfl
theorem o202_47 : OKp l S b Lx xs dC dI cA 202 47 (s_icmp (fun x y => x ≠ y) 50) := ok_icmp_ne (off := 7) (by decide +kernel) (by decide +kernel) rfl
theorem o202_48 : OKp l S b Lx xs dC dI cA 202 48 (s_const (1)) := ok_iconst (n := 1) (by decide +kernel) (by decide) rfl
theorem o202_49 : OKp l S b Lx xs dC dI cA 202 49 (s_goto 51) := ok_goto (off := 4) (by decide +kernel) (by decide +kernel)
theorem o202_50 : OKp l S b Lx xs dC dI cA 202 50 (s_const (0)) := ok_iconst (n := 0) (by decide +kernel) (by decide) rfl
theorem o202_51 : OKp l S b Lx xs dC dI cA 202 51 (s_istore 10) := ok_istore (by decide +kernel) rfl
theorem o202_52 : OKp l S b Lx xs dC dI cA 202 52 (s_aload 0) := ok_aload_n (k9 := 0) (by decide +kernel) rfl rfl
theorem o202_53 : OKp l S b Lx xs dC dI cA 202 53 (s_invV (dv1 12 184 1) [] 0) := ok_invV (dv1_ok vc_RX12_196_12 rfl (by decide) (hXX 184 (by decide))) (by decide +kernel) rfl
theorem o202_54 : OKp l S b Lx xs dC dI cA 202 54 (s_iload 10) := ok_iload (by decide +kernel) rfl
theorem o202_55 : OKp l S b Lx xs dC dI cA 202 55 (s_if (fun x => x ≠ 0) 57) := ok_if_ne (off := 6) (by decide +kernel) (by decide +kernel) rfl
theorem o202_56 : OKp l S b Lx xs dC dI cA 202 56 (s_goto 64) := ok_goto (off := 20) (by decide +kernel) (by decide +kernel)
theorem o202_57 : OKp l S b Lx xs dC dI cA 202 57 (s_iinc 6 (1)) := ok_iinc (n := 1) (by decide +kernel) (by decide) rfl
theorem o202_58 : OKp l S b Lx xs dC dI cA 202 58 (s_iload 7) := ok_iload (by decide +kernel) rfl
theorem o202_59 : OKp l S b Lx xs dC dI cA 202 59 (s_if (fun x => 0 ≤ x) 62) := ok_if_ge (off := 8) (by decide +kernel) (by decide +kernel) rfl
theorem o202_60 : OKp l S b Lx xs dC dI cA 202 60 (s_iload 8) := ok_iload (by decide +kernel) rfl
theorem o202_61 : OKp l S b Lx xs dC dI cA 202 61 (s_goto 63) := ok_goto (off := 5) (by decide +kernel) (by decide +kernel)
theorem o202_62 : OKp l S b Lx xs dC dI cA 202 62 (s_iload 7) := ok_iload (by decide +kernel) rfl
theorem o202_63 : OKp l S b Lx xs dC dI cA 202 63 (s_istore 7) := ok_istore (by decide +kernel) rfl
theorem o202_64 : OKp l S b Lx xs dC dI cA 202 64 (s_iinc 8 (1)) := ok_iinc (n := 1) (by decide +kernel) (by decide) rfl
theorem o202_65 : OKp l S b Lx xs dC dI cA 202 65 (s_goto 22) := ok_goto (off := -84) (by decide +kernel) (by decide +kernel)
theorem o202_66 : OKp l S b Lx xs dC dI cA 202 66 (s_iload 3) := ok_iload_n (k9 := 3) (by decide +kernel) rfl rfl
theorem o202_67 : OKp l S b Lx xs dC dI cA 202 67 (s_if (fun x => x ≠ 0) 70) := ok_if_ne (off := 8) (by decide +kernel) (by decide +kernel) rfl
theorem o202_68 : OKp l S b Lx xs dC dI cA 202 68 (s_iload 6) := ok_iload (by decide +kernel) rfl
theorem o202_69 : OKp l S b Lx xs dC dI cA 202 69 (s_goto 71) := ok_goto (off := 5) (by decide +kernel) (by decide +kernel)
theorem o202_70 : OKp l S b Lx xs dC dI cA 202 70 (s_iload 7) := ok_iload (by decide +kernel) rfl
theorem o202_71 : OKp l S b Lx xs dC dI cA 202 71 (s_ret) := ok_ret (by decide +kernel) rfl
theorem a202_0 (hl9 : l.stackTraces = false) : sm_all (OKp l S b Lx xs dC dI cA 202) 0 sc_202_0 := ⟨o202_0, o202_1, o202_2, o202_3, o202_4, o202_5, o202_6, o202_7, o202_8, o202_9, o202_10, o202_11, o202_12, o202_13, o202_14, o202_15, o202_16, o202_17, o202_18, o202_19, o202_20, o202_21, o202_22, o202_23, o202_24, o202_25, o202_26, o202_27, o202_28, o202_29, o202_30, o202_31, o202_32, o202_33, o202_34, o202_35, o202_36, o202_37, o202_38, o202_39, o202_40, o202_41, o202_42, o202_43, o202_44, o202_45, o202_46, o202_47, o202_48, o202_49, o202_50, o202_51, o202_52, o202_53, o202_54, o202_55, o202_56, o202_57, o202_58, o202_59, trivial⟩
theorem a202_1 (hl9 : l.stackTraces = false) : sm_all (OKp l S b Lx xs dC dI cA 202) 60 sc_202_1 := ⟨o202_60, o202_61, o202_62, o202_63, o202_64, o202_65, o202_66, o202_67, o202_68, o202_69, o202_70, o202_71, trivial⟩
theorem a202 (hl9 : l.stackTraces = false) : sm_all (OKp l S b Lx xs dC dI cA 202) 0 sc_202 := sm_all_app _ _ _ (a202_0 hl9) (a202_1 hl9)
theorem o203_0 : OKp l S b Lx xs dC dI cA 203 0 (s_aload 0) := ok_aload_n (k9 := 0) (by decide +kernel) rfl rfl
theorem o203_1 : OKp l S b Lx xs dC dI cA 203 1 (s_iload 1) := ok_iload_n (k9 := 1) (by decide +kernel) rfl rfl
theorem o203_2 : OKp l S b Lx xs dC dI cA 203 2 (s_invV (dv1 12 142 2) [] 1) := ok_invV (dv1_ok vc_RX12_144_12 rfl (by decide) (hXX 142 (by decide))) (by decide +kernel) rfl
theorem o203_3 : OKp l S b Lx xs dC dI cA 203 3 (s_if (fun x => x = 0) 9) := ok_if_eq (off := 12) (by decide +kernel) (by decide +kernel) rfl
theorem o203_4 : OKp l S b Lx xs dC dI cA 203 4 (s_aload 0) := ok_aload_n (k9 := 0) (by decide +kernel) rfl rfl
theorem o203_5 : OKp l S b Lx xs dC dI cA 203 5 (s_iload 2) := ok_iload_n (k9 := 2) (by decide +kernel) rfl rfl
theorem o203_6 : OKp l S b Lx xs dC dI cA 203 6 (s_iload 3) := ok_iload_n (k9 := 3) (by decide +kernel) rfl rfl
theorem o203_7 : OKp l S b Lx xs dC dI cA 203 7 (s_invV (dv1 12 176 3) [] 2) := ok_invV (dv1_ok vc_RX12_178_12 rfl (by decide) (hXX 176 (by decide))) (by decide +kernel) rfl
theorem o203_8 : OKp l S b Lx xs dC dI cA 203 8 (s_if (fun x => x ≠ 0) 11) := ok_if_ne (off := 6) (by decide +kernel) (by decide +kernel) rfl
theorem o203_9 : OKp l S b Lx xs dC dI cA 203 9 (s_const (-1000000001)) := ok_ldc (k := 227) (by decide +kernel) w_1258 rfl
theorem o203_10 : OKp l S b Lx xs dC dI cA 203 10 (s_ret) := ok_ret (by decide +kernel) rfl
theorem o203_11 : OKp l S b Lx xs dC dI cA 203 11 (s_aload 0) := ok_aload_n (k9 := 0) (by decide +kernel) rfl rfl
theorem o203_12 : OKp l S b Lx xs dC dI cA 203 12 (s_invV (dv1 12 183 1) [] 0) := ok_invV (dv1_ok vc_RX12_184_12 rfl (by decide) (hXX 183 (by decide))) (by decide +kernel) rfl
theorem o203_13 : OKp l S b Lx xs dC dI cA 203 13 (s_const (0)) := ok_iconst (n := 0) (by decide +kernel) (by decide) rfl
theorem o203_14 : OKp l S b Lx xs dC dI cA 203 14 (s_istore 4) := ok_istore (by decide +kernel) rfl
theorem o203_15 : OKp l S b Lx xs dC dI cA 203 15 (s_const (0)) := ok_iconst (n := 0) (by decide +kernel) (by decide) rfl
theorem o203_16 : OKp l S b Lx xs dC dI cA 203 16 (s_istore 5) := ok_istore (by decide +kernel) rfl
theorem o203_17 : OKp l S b Lx xs dC dI cA 203 17 (s_iload 5) := ok_iload (by decide +kernel) rfl
theorem o203_18 : OKp l S b Lx xs dC dI cA 203 18 (s_const (16)) := ok_bipush (n := 16) (by decide +kernel) (by decide) rfl
theorem o203_19 : OKp l S b Lx xs dC dI cA 203 19 (s_icmp (fun x y => y ≤ x) 43) := ok_icmp_ge (off := 45) (by decide +kernel) (by decide +kernel) rfl
theorem o203_20 : OKp l S b Lx xs dC dI cA 203 20 (s_aload 0) := ok_aload_n (k9 := 0) (by decide +kernel) rfl rfl
theorem o203_21 : OKp l S b Lx xs dC dI cA 203 21 (s_iload 3) := ok_iload_n (k9 := 3) (by decide +kernel) rfl rfl
theorem o203_22 : OKp l S b Lx xs dC dI cA 203 22 (s_invV (dv1 12 144 2) [] 1) := ok_invV (dv1_ok vc_RX12_67_12 rfl (by decide) (hXX 144 (by decide))) (by decide +kernel) rfl
theorem o203_23 : OKp l S b Lx xs dC dI cA 203 23 (s_if (fun x => x = 0) 43) := ok_if_eq (off := 37) (by decide +kernel) (by decide +kernel) rfl
theorem o203_24 : OKp l S b Lx xs dC dI cA 203 24 (s_iload 4) := ok_iload (by decide +kernel) rfl
theorem o203_25 : OKp l S b Lx xs dC dI cA 203 25 (s_iload 5) := ok_iload (by decide +kernel) rfl
theorem o203_26 : OKp l S b Lx xs dC dI cA 203 26 (s_const (2)) := ok_iconst (n := 2) (by decide +kernel) (by decide) rfl
theorem o203_27 : OKp l S b Lx xs dC dI cA 203 27 (s_dvr g_irem) := ok_irem (by decide +kernel) rfl
theorem o203_28 : OKp l S b Lx xs dC dI cA 203 28 (s_if (fun x => x ≠ 0) 34) := ok_if_ne (off := 12) (by decide +kernel) (by decide +kernel) rfl
theorem o203_29 : OKp l S b Lx xs dC dI cA 203 29 (s_aload 0) := ok_aload_n (k9 := 0) (by decide +kernel) rfl rfl
theorem o203_30 : OKp l S b Lx xs dC dI cA 203 30 (s_iload 1) := ok_iload_n (k9 := 1) (by decide +kernel) rfl rfl
theorem o203_31 : OKp l S b Lx xs dC dI cA 203 31 (s_iload 3) := ok_iload_n (k9 := 3) (by decide +kernel) rfl rfl
theorem o203_32 : OKp l S b Lx xs dC dI cA 203 32 (s_invV (dv1 12 162 5) [] 2) := ok_invV (dv1_ok vc_RX12_147_12 rfl (by decide) (hXX 162 (by decide))) (by decide +kernel) rfl
theorem o203_33 : OKp l S b Lx xs dC dI cA 203 33 (s_goto 39) := ok_goto (off := 10) (by decide +kernel) (by decide +kernel)
theorem o203_34 : OKp l S b Lx xs dC dI cA 203 34 (s_aload 0) := ok_aload_n (k9 := 0) (by decide +kernel) rfl rfl
theorem o203_35 : OKp l S b Lx xs dC dI cA 203 35 (s_iload 2) := ok_iload_n (k9 := 2) (by decide +kernel) rfl rfl
theorem o203_36 : OKp l S b Lx xs dC dI cA 203 36 (s_iload 3) := ok_iload_n (k9 := 3) (by decide +kernel) rfl rfl
theorem o203_37 : OKp l S b Lx xs dC dI cA 203 37 (s_invV (dv1 12 162 5) [] 2) := ok_invV (dv1_ok vc_RX12_147_12 rfl (by decide) (hXX 162 (by decide))) (by decide +kernel) rfl
theorem o203_38 : OKp l S b Lx xs dC dI cA 203 38 (s_un g_ineg) := ok_ineg (by decide +kernel) rfl
theorem o203_39 : OKp l S b Lx xs dC dI cA 203 39 (s_bin g_iadd) := ok_iadd (by decide +kernel) rfl
theorem o203_40 : OKp l S b Lx xs dC dI cA 203 40 (s_istore 4) := ok_istore (by decide +kernel) rfl
theorem o203_41 : OKp l S b Lx xs dC dI cA 203 41 (s_iinc 5 (1)) := ok_iinc (n := 1) (by decide +kernel) (by decide) rfl
theorem o203_42 : OKp l S b Lx xs dC dI cA 203 42 (s_goto 17) := ok_goto (off := -46) (by decide +kernel) (by decide +kernel)
theorem o203_43 : OKp l S b Lx xs dC dI cA 203 43 (s_aload 0) := ok_aload_n (k9 := 0) (by decide +kernel) rfl rfl
theorem o203_44 : OKp l S b Lx xs dC dI cA 203 44 (s_invV (dv1 12 184 1) [] 0) := ok_invV (dv1_ok vc_RX12_196_12 rfl (by decide) (hXX 184 (by decide))) (by decide +kernel) rfl
theorem o203_45 : OKp l S b Lx xs dC dI cA 203 45 (s_iload 4) := ok_iload (by decide +kernel) rfl
theorem o203_46 : OKp l S b Lx xs dC dI cA 203 46 (s_ret) := ok_ret (by decide +kernel) rfl
theorem a203 (hl9 : l.stackTraces = false) : sm_all (OKp l S b Lx xs dC dI cA 203) 0 sc_203 := ⟨o203_0, o203_1, o203_2, o203_3, o203_4, o203_5, o203_6, o203_7, o203_8, o203_9, o203_10, o203_11, o203_12, o203_13, o203_14, o203_15, o203_16, o203_17, o203_18, o203_19, o203_20, o203_21, o203_22, o203_23, o203_24, o203_25, o203_26, o203_27, o203_28, o203_29, o203_30, o203_31, o203_32, o203_33, o203_34, o203_35, o203_36, o203_37, o203_38, o203_39, o203_40, o203_41, o203_42, o203_43, o203_44, o203_45, o203_46, trivial⟩
theorem o204_0 : OKp l S b Lx xs dC dI cA 204 0 (s_aload 0) := ok_aload_n (k9 := 0) (by decide +kernel) rfl rfl
theorem o204_1 : OKp l S b Lx xs dC dI cA 204 1 (s_iload 1) := ok_iload_n (k9 := 1) (by decide +kernel) rfl rfl
theorem o204_2 : OKp l S b Lx xs dC dI cA 204 2 (s_invV (dv1 12 142 2) [] 1) := ok_invV (dv1_ok vc_RX12_144_12 rfl (by decide) (hXX 142 (by decide))) (by decide +kernel) rfl
theorem o204_3 : OKp l S b Lx xs dC dI cA 204 3 (s_if (fun x => x = 0) 9) := ok_if_eq (off := 12) (by decide +kernel) (by decide +kernel) rfl
theorem o204_4 : OKp l S b Lx xs dC dI cA 204 4 (s_aload 0) := ok_aload_n (k9 := 0) (by decide +kernel) rfl rfl
theorem o204_5 : OKp l S b Lx xs dC dI cA 204 5 (s_iload 2) := ok_iload_n (k9 := 2) (by decide +kernel) rfl rfl
theorem o204_6 : OKp l S b Lx xs dC dI cA 204 6 (s_iload 3) := ok_iload_n (k9 := 3) (by decide +kernel) rfl rfl
theorem o204_7 : OKp l S b Lx xs dC dI cA 204 7 (s_invV (dv1 12 148 3) [] 2) := ok_invV (dv1_ok vc_RX12_138_12 rfl (by decide) (hXX 148 (by decide))) (by decide +kernel) rfl
theorem o204_8 : OKp l S b Lx xs dC dI cA 204 8 (s_if (fun x => x ≠ 0) 11) := ok_if_ne (off := 6) (by decide +kernel) (by decide +kernel) rfl
theorem o204_9 : OKp l S b Lx xs dC dI cA 204 9 (s_const (-1000000001)) := ok_ldc (k := 227) (by decide +kernel) w_1258 rfl
theorem o204_10 : OKp l S b Lx xs dC dI cA 204 10 (s_ret) := ok_ret (by decide +kernel) rfl
theorem o204_11 : OKp l S b Lx xs dC dI cA 204 11 (s_aload 0) := ok_aload_n (k9 := 0) (by decide +kernel) rfl rfl
theorem o204_12 : OKp l S b Lx xs dC dI cA 204 12 (s_iload 2) := ok_iload_n (k9 := 2) (by decide +kernel) rfl rfl
theorem o204_13 : OKp l S b Lx xs dC dI cA 204 13 (s_iload 3) := ok_iload_n (k9 := 3) (by decide +kernel) rfl rfl
theorem o204_14 : OKp l S b Lx xs dC dI cA 204 14 (s_invV (dv1 12 149 3) [] 2) := ok_invV (dv1_ok vc_RX12_90_12 rfl (by decide) (hXX 149 (by decide))) (by decide +kernel) rfl
theorem o204_15 : OKp l S b Lx xs dC dI cA 204 15 (s_if (fun x => x ≠ 0) 18) := ok_if_ne (off := 6) (by decide +kernel) (by decide +kernel) rfl
theorem o204_16 : OKp l S b Lx xs dC dI cA 204 16 (s_const (-1000000003)) := ok_ldc (k := 228) (by decide +kernel) w_1263 rfl
theorem o204_17 : OKp l S b Lx xs dC dI cA 204 17 (s_ret) := ok_ret (by decide +kernel) rfl
theorem o204_18 : OKp l S b Lx xs dC dI cA 204 18 (s_aload 0) := ok_aload_n (k9 := 0) (by decide +kernel) rfl rfl
theorem o204_19 : OKp l S b Lx xs dC dI cA 204 19 (s_iload 1) := ok_iload_n (k9 := 1) (by decide +kernel) rfl rfl
theorem o204_20 : OKp l S b Lx xs dC dI cA 204 20 (s_iload 2) := ok_iload_n (k9 := 2) (by decide +kernel) rfl rfl
theorem o204_21 : OKp l S b Lx xs dC dI cA 204 21 (s_invV (dv1 12 158 3) [] 2) := ok_invV (dv1_ok vc_RX12_108_12 rfl (by decide) (hXX 158 (by decide))) (by decide +kernel) rfl
theorem o204_22 : OKp l S b Lx xs dC dI cA 204 22 (s_istore 4) := ok_istore (by decide +kernel) rfl
theorem o204_23 : OKp l S b Lx xs dC dI cA 204 23 (s_aload 0) := ok_aload_n (k9 := 0) (by decide +kernel) rfl rfl
theorem o204_24 : OKp l S b Lx xs dC dI cA 204 24 (s_iload 2) := ok_iload_n (k9 := 2) (by decide +kernel) rfl rfl
theorem o204_25 : OKp l S b Lx xs dC dI cA 204 25 (s_invV (dv1 12 144 2) [] 1) := ok_invV (dv1_ok vc_RX12_67_12 rfl (by decide) (hXX 144 (by decide))) (by decide +kernel) rfl
theorem o204_26 : OKp l S b Lx xs dC dI cA 204 26 (s_istore 5) := ok_istore (by decide +kernel) rfl
theorem o204_27 : OKp l S b Lx xs dC dI cA 204 27 (s_aload 0) := ok_aload_n (k9 := 0) (by decide +kernel) rfl rfl
theorem o204_28 : OKp l S b Lx xs dC dI cA 204 28 (s_iload 2) := ok_iload_n (k9 := 2) (by decide +kernel) rfl rfl
theorem o204_29 : OKp l S b Lx xs dC dI cA 204 29 (s_iload 5) := ok_iload (by decide +kernel) rfl
theorem o204_30 : OKp l S b Lx xs dC dI cA 204 30 (s_const (1)) := ok_iconst (n := 1) (by decide +kernel) (by decide) rfl
theorem o204_31 : OKp l S b Lx xs dC dI cA 204 31 (s_iload 3) := ok_iload_n (k9 := 3) (by decide +kernel) rfl rfl
theorem o204_32 : OKp l S b Lx xs dC dI cA 204 32 (s_bin g_ishl) := ok_ishl (by decide +kernel) rfl
theorem o204_33 : OKp l S b Lx xs dC dI cA 204 33 (s_const (-1)) := ok_iconst (n := -1) (by decide +kernel) (by decide) rfl
theorem o204_34 : OKp l S b Lx xs dC dI cA 204 34 (s_bin g_ixor) := ok_ixor (by decide +kernel) rfl
theorem o204_35 : OKp l S b Lx xs dC dI cA 204 35 (s_bin g_iand) := ok_iand (by decide +kernel) rfl
theorem o204_36 : OKp l S b Lx xs dC dI cA 204 36 (s_invV (dv1 12 145 3) [] 2) := ok_invV (dv1_ok vc_RX12_104_12 rfl (by decide) (hXX 145 (by decide))) (by decide +kernel) rfl
theorem o204_37 : OKp l S b Lx xs dC dI cA 204 37 (s_aload 0) := ok_aload_n (k9 := 0) (by decide +kernel) rfl rfl
theorem o204_38 : OKp l S b Lx xs dC dI cA 204 38 (s_iload 1) := ok_iload_n (k9 := 1) (by decide +kernel) rfl rfl
theorem o204_39 : OKp l S b Lx xs dC dI cA 204 39 (s_iload 2) := ok_iload_n (k9 := 2) (by decide +kernel) rfl rfl
theorem o204_40 : OKp l S b Lx xs dC dI cA 204 40 (s_invV (dv1 12 158 3) [] 2) := ok_invV (dv1_ok vc_RX12_108_12 rfl (by decide) (hXX 158 (by decide))) (by decide +kernel) rfl
theorem o204_41 : OKp l S b Lx xs dC dI cA 204 41 (s_istore 6) := ok_istore (by decide +kernel) rfl
theorem o204_42 : OKp l S b Lx xs dC dI cA 204 42 (s_aload 0) := ok_aload_n (k9 := 0) (by decide +kernel) rfl rfl
theorem o204_43 : OKp l S b Lx xs dC dI cA 204 43 (s_iload 2) := ok_iload_n (k9 := 2) (by decide +kernel) rfl rfl
theorem o204_44 : OKp l S b Lx xs dC dI cA 204 44 (s_iload 5) := ok_iload (by decide +kernel) rfl
theorem o204_45 : OKp l S b Lx xs dC dI cA 204 45 (s_invV (dv1 12 145 3) [] 2) := ok_invV (dv1_ok vc_RX12_104_12 rfl (by decide) (hXX 145 (by decide))) (by decide +kernel) rfl
theorem o204_46 : OKp l S b Lx xs dC dI cA 204 46 (s_iload 4) := ok_iload (by decide +kernel) rfl
theorem o204_47 : OKp l S b Lx xs dC dI cA 204 47 (s_iload 6) := ok_iload (by decide +kernel) rfl
theorem o204_48 : OKp l S b Lx xs dC dI cA 204 48 (s_bin g_isub) := ok_isub (by decide +kernel) rfl
theorem o204_49 : OKp l S b Lx xs dC dI cA 204 49 (s_ret) := ok_ret (by decide +kernel) rfl
theorem a204 (hl9 : l.stackTraces = false) : sm_all (OKp l S b Lx xs dC dI cA 204) 0 sc_204 := ⟨o204_0, o204_1, o204_2, o204_3, o204_4, o204_5, o204_6, o204_7, o204_8, o204_9, o204_10, o204_11, o204_12, o204_13, o204_14, o204_15, o204_16, o204_17, o204_18, o204_19, o204_20, o204_21, o204_22, o204_23, o204_24, o204_25, o204_26, o204_27, o204_28, o204_29, o204_30, o204_31, o204_32, o204_33, o204_34, o204_35, o204_36, o204_37, o204_38, o204_39, o204_40, o204_41, o204_42, o204_43, o204_44, o204_45, o204_46, o204_47, o204_48, o204_49, trivial⟩
theorem o205_0 : OKp l S b Lx xs dC dI cA 205 0 (s_const (0)) := ok_iconst (n := 0) (by decide +kernel) (by decide) rfl
theorem o205_1 : OKp l S b Lx xs dC dI cA 205 1 (s_istore 5) := ok_istore (by decide +kernel) rfl
theorem o205_2 : OKp l S b Lx xs dC dI cA 205 2 (s_iload 5) := ok_iload (by decide +kernel) rfl
theorem o205_3 : OKp l S b Lx xs dC dI cA 205 3 (s_iload 4) := ok_iload (by decide +kernel) rfl
theorem o205_4 : OKp l S b Lx xs dC dI cA 205 4 (s_icmp (fun x y => y ≤ x) 18) := ok_icmp_ge (off := 25) (by decide +kernel) (by decide +kernel) rfl
theorem o205_5 : OKp l S b Lx xs dC dI cA 205 5 (s_aload 0) := ok_aload_n (k9 := 0) (by decide +kernel) rfl rfl
theorem o205_6 : OKp l S b Lx xs dC dI cA 205 6 (s_getR (fun t => t == 12) 19) := ok_getR (by decide +kernel) rfl fd_RX12_46
theorem o205_7 : OKp l S b Lx xs dC dI cA 205 7 (s_iload 5) := ok_iload (by decide +kernel) rfl
theorem o205_8 : OKp l S b Lx xs dC dI cA 205 8 (s_const (1)) := ok_iconst (n := 1) (by decide +kernel) (by decide) rfl
theorem o205_9 : OKp l S b Lx xs dC dI cA 205 9 (s_aload 0) := ok_aload_n (k9 := 0) (by decide +kernel) rfl rfl
theorem o205_10 : OKp l S b Lx xs dC dI cA 205 10 (s_iload 2) := ok_iload_n (k9 := 2) (by decide +kernel) rfl rfl
theorem o205_11 : OKp l S b Lx xs dC dI cA 205 11 (s_invV (dv1 12 143 2) [] 1) := ok_invV (dv1_ok vc_RX12_63_12 rfl (by decide) (hXX 143 (by decide))) (by decide +kernel) rfl
theorem o205_12 : OKp l S b Lx xs dC dI cA 205 12 (s_bin g_ishl) := ok_ishl (by decide +kernel) rfl
theorem o205_13 : OKp l S b Lx xs dC dI cA 205 13 (s_const (1)) := ok_iconst (n := 1) (by decide +kernel) (by decide) rfl
theorem o205_14 : OKp l S b Lx xs dC dI cA 205 14 (s_bin g_isub) := ok_isub (by decide +kernel) rfl
theorem o205_15 : OKp l S b Lx xs dC dI cA 205 15 (s_iast) := ok_iast (by decide +kernel) rfl
theorem o205_16 : OKp l S b Lx xs dC dI cA 205 16 (s_iinc 5 (1)) := ok_iinc (n := 1) (by decide +kernel) (by decide) rfl
theorem o205_17 : OKp l S b Lx xs dC dI cA 205 17 (s_goto 2) := ok_goto (off := -26) (by decide +kernel) (by decide +kernel)
theorem o205_18 : OKp l S b Lx xs dC dI cA 205 18 (s_const (0)) := ok_iconst (n := 0) (by decide +kernel) (by decide) rfl
theorem o205_19 : OKp l S b Lx xs dC dI cA 205 19 (s_istore 5) := ok_istore (by decide +kernel) rfl
theorem o205_20 : OKp l S b Lx xs dC dI cA 205 20 (s_iload 5) := ok_iload (by decide +kernel) rfl
theorem o205_21 : OKp l S b Lx xs dC dI cA 205 21 (s_iload 3) := ok_iload_n (k9 := 3) (by decide +kernel) rfl rfl
theorem o205_22 : OKp l S b Lx xs dC dI cA 205 22 (s_icmp (fun x y => y ≤ x) 79) := ok_icmp_ge (off := 108) (by decide +kernel) (by decide +kernel) rfl
theorem o205_23 : OKp l S b Lx xs dC dI cA 205 23 (s_const (0)) := ok_iconst (n := 0) (by decide +kernel) (by decide) rfl
theorem o205_24 : OKp l S b Lx xs dC dI cA 205 24 (s_istore 6) := ok_istore (by decide +kernel) rfl
theorem o205_25 : OKp l S b Lx xs dC dI cA 205 25 (s_const (-1)) := ok_iconst (n := -1) (by decide +kernel) (by decide) rfl
theorem o205_26 : OKp l S b Lx xs dC dI cA 205 26 (s_istore 7) := ok_istore (by decide +kernel) rfl
theorem o205_27 : OKp l S b Lx xs dC dI cA 205 27 (s_const (0)) := ok_iconst (n := 0) (by decide +kernel) (by decide) rfl
theorem o205_28 : OKp l S b Lx xs dC dI cA 205 28 (s_istore 8) := ok_istore (by decide +kernel) rfl
theorem o205_29 : OKp l S b Lx xs dC dI cA 205 29 (s_iload 8) := ok_iload (by decide +kernel) rfl
theorem o205_30 : OKp l S b Lx xs dC dI cA 205 30 (s_iload 4) := ok_iload (by decide +kernel) rfl
theorem o205_31 : OKp l S b Lx xs dC dI cA 205 31 (s_icmp (fun x y => y ≤ x) 54) := ok_icmp_ge (off := 47) (by decide +kernel) (by decide +kernel) rfl
theorem o205_32 : OKp l S b Lx xs dC dI cA 205 32 (s_aload 0) := ok_aload_n (k9 := 0) (by decide +kernel) rfl rfl
theorem o205_33 : OKp l S b Lx xs dC dI cA 205 33 (s_iload 2) := ok_iload_n (k9 := 2) (by decide +kernel) rfl rfl
theorem o205_34 : OKp l S b Lx xs dC dI cA 205 34 (s_aload 0) := ok_aload_n (k9 := 0) (by decide +kernel) rfl rfl
theorem o205_35 : OKp l S b Lx xs dC dI cA 205 35 (s_getR (fun t => t == 12) 19) := ok_getR (by decide +kernel) rfl fd_RX12_46
theorem o205_36 : OKp l S b Lx xs dC dI cA 205 36 (s_iload 8) := ok_iload (by decide +kernel) rfl
theorem o205_37 : OKp l S b Lx xs dC dI cA 205 37 (s_iald) := ok_iald (by decide +kernel) rfl
theorem o205_38 : OKp l S b Lx xs dC dI cA 205 38 (s_invV (dv1 12 145 3) [] 2) := ok_invV (dv1_ok vc_RX12_104_12 rfl (by decide) (hXX 145 (by decide))) (by decide +kernel) rfl
theorem o205_39 : OKp l S b Lx xs dC dI cA 205 39 (s_aload 0) := ok_aload_n (k9 := 0) (by decide +kernel) rfl rfl
theorem o205_40 : OKp l S b Lx xs dC dI cA 205 40 (s_iload 1) := ok_iload_n (k9 := 1) (by decide +kernel) rfl rfl
theorem o205_41 : OKp l S b Lx xs dC dI cA 205 41 (s_iload 2) := ok_iload_n (k9 := 2) (by decide +kernel) rfl rfl
theorem o205_42 : OKp l S b Lx xs dC dI cA 205 42 (s_invV (dv1 12 158 3) [] 2) := ok_invV (dv1_ok vc_RX12_108_12 rfl (by decide) (hXX 158 (by decide))) (by decide +kernel) rfl
theorem o205_43 : OKp l S b Lx xs dC dI cA 205 43 (s_istore 9) := ok_istore (by decide +kernel) rfl
theorem o205_44 : OKp l S b Lx xs dC dI cA 205 44 (s_iload 9) := ok_iload (by decide +kernel) rfl
theorem o205_45 : OKp l S b Lx xs dC dI cA 205 45 (s_iload 7) := ok_iload (by decide +kernel) rfl
theorem o205_46 : OKp l S b Lx xs dC dI cA 205 46 (s_icmp (fun x y => y < x) 48) := ok_icmp_gt (off := 6) (by decide +kernel) (by decide +kernel) rfl
theorem o205_47 : OKp l S b Lx xs dC dI cA 205 47 (s_goto 52) := ok_goto (off := 11) (by decide +kernel) (by decide +kernel)
theorem o205_48 : OKp l S b Lx xs dC dI cA 205 48 (s_iload 8) := ok_iload (by decide +kernel) rfl
theorem o205_49 : OKp l S b Lx xs dC dI cA 205 49 (s_istore 6) := ok_istore (by decide +kernel) rfl
theorem o205_50 : OKp l S b Lx xs dC dI cA 205 50 (s_iload 9) := ok_iload (by decide +kernel) rfl
theorem o205_51 : OKp l S b Lx xs dC dI cA 205 51 (s_istore 7) := ok_istore (by decide +kernel) rfl
theorem o205_52 : OKp l S b Lx xs dC dI cA 205 52 (s_iinc 8 (1)) := ok_iinc (n := 1) (by decide +kernel) (by decide) rfl
theorem o205_53 : OKp l S b Lx xs dC dI cA 205 53 (s_goto 29) := ok_goto (off := -48) (by decide +kernel) (by decide +kernel)
theorem o205_54 : OKp l S b Lx xs dC dI cA 205 54 (s_iload 7) := ok_iload (by decide +kernel) rfl
theorem o205_55 : OKp l S b Lx xs dC dI cA 205 55 (s_if (fun x => 0 < x) 58) := ok_if_gt (off := 5) (by decide +kernel) (by decide +kernel) rfl
theorem o205_56 : OKp l S b Lx xs dC dI cA 205 56 (s_const (0)) := ok_iconst (n := 0) (by decide +kernel) (by decide) rfl
theorem o205_57 : OKp l S b Lx xs dC dI cA 205 57 (s_zret) := ok_zret (by decide +kernel) rfl
theorem o205_58 : OKp l S b Lx xs dC dI cA 205 58 (s_aload 0) := ok_aload_n (k9 := 0) (by decide +kernel) rfl rfl
theorem o205_59 : OKp l S b Lx xs dC dI cA 205 59 (s_iload 2) := ok_iload_n (k9 := 2) (by decide +kernel) rfl rfl
theorem o205_60 : OKp l S b Lx xs dC dI cA 205 60 (s_aload 0) := ok_aload_n (k9 := 0) (by decide +kernel) rfl rfl
theorem o205_61 : OKp l S b Lx xs dC dI cA 205 61 (s_getR (fun t => t == 12) 19) := ok_getR (by decide +kernel) rfl fd_RX12_46
theorem o205_62 : OKp l S b Lx xs dC dI cA 205 62 (s_iload 6) := ok_iload (by decide +kernel) rfl
theorem o205_63 : OKp l S b Lx xs dC dI cA 205 63 (s_iald) := ok_iald (by decide +kernel) rfl
theorem o205_64 : OKp l S b Lx xs dC dI cA 205 64 (s_invV (dv1 12 145 3) [] 2) := ok_invV (dv1_ok vc_RX12_104_12 rfl (by decide) (hXX 145 (by decide))) (by decide +kernel) rfl
theorem o205_65 : OKp l S b Lx xs dC dI cA 205 65 (s_aload 0) := ok_aload_n (k9 := 0) (by decide +kernel) rfl rfl
theorem o205_66 : OKp l S b Lx xs dC dI cA 205 66 (s_iload 1) := ok_iload_n (k9 := 1) (by decide +kernel) rfl rfl
theorem o205_67 : OKp l S b Lx xs dC dI cA 205 67 (s_iload 2) := ok_iload_n (k9 := 2) (by decide +kernel) rfl rfl
theorem o205_68 : OKp l S b Lx xs dC dI cA 205 68 (s_invV (dv1 12 162 5) [] 2) := ok_invV (dv1_ok vc_RX12_147_12 rfl (by decide) (hXX 162 (by decide))) (by decide +kernel) rfl
theorem o205_69 : OKp l S b Lx xs dC dI cA 205 69 (s_istore 8) := ok_istore (by decide +kernel) rfl
theorem o205_70 : OKp l S b Lx xs dC dI cA 205 70 (s_aload 0) := ok_aload_n (k9 := 0) (by decide +kernel) rfl rfl
theorem o205_71 : OKp l S b Lx xs dC dI cA 205 71 (s_getR (fun t => t == 12) 19) := ok_getR (by decide +kernel) rfl fd_RX12_46
theorem o205_72 : OKp l S b Lx xs dC dI cA 205 72 (s_iload 6) := ok_iload (by decide +kernel) rfl
theorem o205_73 : OKp l S b Lx xs dC dI cA 205 73 (s_aload 0) := ok_aload_n (k9 := 0) (by decide +kernel) rfl rfl
theorem o205_74 : OKp l S b Lx xs dC dI cA 205 74 (s_iload 2) := ok_iload_n (k9 := 2) (by decide +kernel) rfl rfl
theorem o205_75 : OKp l S b Lx xs dC dI cA 205 75 (s_invV (dv1 12 144 2) [] 1) := ok_invV (dv1_ok vc_RX12_67_12 rfl (by decide) (hXX 144 (by decide))) (by decide +kernel) rfl
theorem o205_76 : OKp l S b Lx xs dC dI cA 205 76 (s_iast) := ok_iast (by decide +kernel) rfl
theorem o205_77 : OKp l S b Lx xs dC dI cA 205 77 (s_iinc 5 (1)) := ok_iinc (n := 1) (by decide +kernel) (by decide) rfl
theorem o205_78 : OKp l S b Lx xs dC dI cA 205 78 (s_goto 20) := ok_goto (off := -108) (by decide +kernel) (by decide +kernel)
theorem o205_79 : OKp l S b Lx xs dC dI cA 205 79 (s_const (1)) := ok_iconst (n := 1) (by decide +kernel) (by decide) rfl
theorem o205_80 : OKp l S b Lx xs dC dI cA 205 80 (s_zret) := ok_zret (by decide +kernel) rfl
theorem a205_0 (hl9 : l.stackTraces = false) : sm_all (OKp l S b Lx xs dC dI cA 205) 0 sc_205_0 := ⟨o205_0, o205_1, o205_2, o205_3, o205_4, o205_5, o205_6, o205_7, o205_8, o205_9, o205_10, o205_11, o205_12, o205_13, o205_14, o205_15, o205_16, o205_17, o205_18, o205_19, o205_20, o205_21, o205_22, o205_23, o205_24, o205_25, o205_26, o205_27, o205_28, o205_29, o205_30, o205_31, o205_32, o205_33, o205_34, o205_35, o205_36, o205_37, o205_38, o205_39, o205_40, o205_41, o205_42, o205_43, o205_44, o205_45, o205_46, o205_47, o205_48, o205_49, o205_50, o205_51, o205_52, o205_53, o205_54, o205_55, o205_56, o205_57, o205_58, o205_59, trivial⟩
theorem a205_1 (hl9 : l.stackTraces = false) : sm_all (OKp l S b Lx xs dC dI cA 205) 60 sc_205_1 := ⟨o205_60, o205_61, o205_62, o205_63, o205_64, o205_65, o205_66, o205_67, o205_68, o205_69, o205_70, o205_71, o205_72, o205_73, o205_74, o205_75, o205_76, o205_77, o205_78, o205_79, o205_80, trivial⟩
theorem a205 (hl9 : l.stackTraces = false) : sm_all (OKp l S b Lx xs dC dI cA 205) 0 sc_205 := sm_all_app _ _ _ (a205_0 hl9) (a205_1 hl9)
theorem o206_0 : OKp l S b Lx xs dC dI cA 206 0 (s_aload 0) := ok_aload_n (k9 := 0) (by decide +kernel) rfl rfl
theorem o206_1 : OKp l S b Lx xs dC dI cA 206 1 (s_iload 1) := ok_iload_n (k9 := 1) (by decide +kernel) rfl rfl
theorem o206_2 : OKp l S b Lx xs dC dI cA 206 2 (s_iload 2) := ok_iload_n (k9 := 2) (by decide +kernel) rfl rfl
theorem o206_3 : OKp l S b Lx xs dC dI cA 206 3 (s_invV (dv1 12 176 3) [] 2) := ok_invV (dv1_ok vc_RX12_178_12 rfl (by decide) (hXX 176 (by decide))) (by decide +kernel) rfl
theorem o206_4 : OKp l S b Lx xs dC dI cA 206 4 (s_if (fun x => x = 0) 11) := ok_if_eq (off := 15) (by decide +kernel) (by decide +kernel) rfl
theorem o206_5 : OKp l S b Lx xs dC dI cA 206 5 (s_iload 3) := ok_iload_n (k9 := 3) (by decide +kernel) rfl rfl
theorem o206_6 : OKp l S b Lx xs dC dI cA 206 6 (s_i2l) := ok_i2l (by decide +kernel) rfl
theorem o206_7 : OKp l S b Lx xs dC dI cA 206 7 (s_lconst 1) := ok_lconst (n := 1) (by decide +kernel) (by decide) rfl
theorem o206_8 : OKp l S b Lx xs dC dI cA 206 8 (s_lconst (40)) := ok_ldc2 (k := 229) (by decide +kernel) w_1268 rfl
theorem o206_9 : OKp l S b Lx xs dC dI cA 206 9 (s_invS 139 3 6) := ok_invS rfl rfl (by decide) (hXX 139 (by decide)) w_1012 w_1013 w_61 c_139 (by decide +kernel) (by decide +kernel) rfl
theorem o206_10 : OKp l S b Lx xs dC dI cA 206 10 (s_if (fun x => x ≠ 0) 13) := ok_if_ne (off := 5) (by decide +kernel) (by decide +kernel) rfl
theorem o206_11 : OKp l S b Lx xs dC dI cA 206 11 (s_const (-1)) := ok_iconst (n := -1) (by decide +kernel) (by decide) rfl
theorem o206_12 : OKp l S b Lx xs dC dI cA 206 12 (s_ret) := ok_ret (by decide +kernel) rfl
theorem o206_13 : OKp l S b Lx xs dC dI cA 206 13 (s_aload 0) := ok_aload_n (k9 := 0) (by decide +kernel) rfl rfl
theorem o206_14 : OKp l S b Lx xs dC dI cA 206 14 (s_invV (dv1 12 183 1) [] 0) := ok_invV (dv1_ok vc_RX12_184_12 rfl (by decide) (hXX 183 (by decide))) (by decide +kernel) rfl
theorem o206_15 : OKp l S b Lx xs dC dI cA 206 15 (s_const (-4)) := ok_bipush (n := -4) (by decide +kernel) (by decide) rfl
theorem o206_16 : OKp l S b Lx xs dC dI cA 206 16 (s_istore 4) := ok_istore (by decide +kernel) rfl
theorem o206_17 : OKp l S b Lx xs dC dI cA 206 17 (s_const (1)) := ok_iconst (n := 1) (by decide +kernel) (by decide) rfl
theorem o206_18 : OKp l S b Lx xs dC dI cA 206 18 (s_istore 5) := ok_istore (by decide +kernel) rfl
theorem o206_19 : OKp l S b Lx xs dC dI cA 206 19 (s_iload 5) := ok_iload (by decide +kernel) rfl
theorem o206_20 : OKp l S b Lx xs dC dI cA 206 20 (s_const (10)) := ok_bipush (n := 10) (by decide +kernel) (by decide) rfl
theorem o206_21 : OKp l S b Lx xs dC dI cA 206 21 (s_icmp (fun x y => y ≤ x) 39) := ok_icmp_ge (off := 39) (by decide +kernel) (by decide +kernel) rfl
theorem o206_22 : OKp l S b Lx xs dC dI cA 206 22 (s_iload 4) := ok_iload (by decide +kernel) rfl
theorem o206_23 : OKp l S b Lx xs dC dI cA 206 23 (s_if (fun x => 0 ≤ x) 39) := ok_if_ge (off := 34) (by decide +kernel) (by decide +kernel) rfl
theorem o206_24 : OKp l S b Lx xs dC dI cA 206 24 (s_aload 0) := ok_aload_n (k9 := 0) (by decide +kernel) rfl rfl
theorem o206_25 : OKp l S b Lx xs dC dI cA 206 25 (s_iload 1) := ok_iload_n (k9 := 1) (by decide +kernel) rfl rfl
theorem o206_26 : OKp l S b Lx xs dC dI cA 206 26 (s_iload 2) := ok_iload_n (k9 := 2) (by decide +kernel) rfl rfl
theorem o206_27 : OKp l S b Lx xs dC dI cA 206 27 (s_iload 3) := ok_iload_n (k9 := 3) (by decide +kernel) rfl rfl
theorem o206_28 : OKp l S b Lx xs dC dI cA 206 28 (s_iload 5) := ok_iload (by decide +kernel) rfl
theorem o206_29 : OKp l S b Lx xs dC dI cA 206 29 (s_invV (dv1 12 205 10) [] 4) := ok_invV (dv1_ok vc_RX12_231_12 rfl (by decide) (hXX 205 (by decide))) (by decide +kernel) rfl
theorem o206_30 : OKp l S b Lx xs dC dI cA 206 30 (s_if (fun x => x = 0) 33) := ok_if_eq (off := 8) (by decide +kernel) (by decide +kernel) rfl
theorem o206_31 : OKp l S b Lx xs dC dI cA 206 31 (s_iload 5) := ok_iload (by decide +kernel) rfl
theorem o206_32 : OKp l S b Lx xs dC dI cA 206 32 (s_goto 34) := ok_goto (off := 5) (by decide +kernel) (by decide +kernel)
theorem o206_33 : OKp l S b Lx xs dC dI cA 206 33 (s_const (-4)) := ok_bipush (n := -4) (by decide +kernel) (by decide) rfl
theorem o206_34 : OKp l S b Lx xs dC dI cA 206 34 (s_istore 4) := ok_istore (by decide +kernel) rfl
theorem o206_35 : OKp l S b Lx xs dC dI cA 206 35 (s_aload 0) := ok_aload_n (k9 := 0) (by decide +kernel) rfl rfl
theorem o206_36 : OKp l S b Lx xs dC dI cA 206 36 (s_invV (dv1 12 184 1) [] 0) := ok_invV (dv1_ok vc_RX12_196_12 rfl (by decide) (hXX 184 (by decide))) (by decide +kernel) rfl
theorem o206_37 : OKp l S b Lx xs dC dI cA 206 37 (s_iinc 5 (1)) := ok_iinc (n := 1) (by decide +kernel) (by decide) rfl
theorem o206_38 : OKp l S b Lx xs dC dI cA 206 38 (s_goto 19) := ok_goto (off := -40) (by decide +kernel) (by decide +kernel)
theorem o206_39 : OKp l S b Lx xs dC dI cA 206 39 (s_iload 4) := ok_iload (by decide +kernel) rfl
theorem o206_40 : OKp l S b Lx xs dC dI cA 206 40 (s_ret) := ok_ret (by decide +kernel) rfl
theorem a206 (hl9 : l.stackTraces = false) : sm_all (OKp l S b Lx xs dC dI cA 206) 0 sc_206 := ⟨o206_0, o206_1, o206_2, o206_3, o206_4, o206_5, o206_6, o206_7, o206_8, o206_9, o206_10, o206_11, o206_12, o206_13, o206_14, o206_15, o206_16, o206_17, o206_18, o206_19, o206_20, o206_21, o206_22, o206_23, o206_24, o206_25, o206_26, o206_27, o206_28, o206_29, o206_30, o206_31, o206_32, o206_33, o206_34, o206_35, o206_36, o206_37, o206_38, o206_39, o206_40, trivial⟩
theorem o207_0 : OKp l S b Lx xs dC dI cA 207 0 (s_aload 0) := ok_aload_n (k9 := 0) (by decide +kernel) rfl rfl
theorem o207_1 : OKp l S b Lx xs dC dI cA 207 1 (s_aload 0) := ok_aload_n (k9 := 0) (by decide +kernel) rfl rfl
theorem o207_2 : OKp l S b Lx xs dC dI cA 207 2 (s_getI (fun t => t == 12) 20) := ok_getI (by decide +kernel) rfl fd_RX12_235
theorem o207_3 : OKp l S b Lx xs dC dI cA 207 3 (s_const (1103515245)) := ok_ldc (k := 238) (by decide +kernel) w_1281 rfl
theorem o207_4 : OKp l S b Lx xs dC dI cA 207 4 (s_bin g_imul) := ok_imul (by decide +kernel) rfl
theorem o207_5 : OKp l S b Lx xs dC dI cA 207 5 (s_const (12345)) := ok_sipush (n := 12345) (by decide +kernel) (by decide) rfl
theorem o207_6 : OKp l S b Lx xs dC dI cA 207 6 (s_bin g_iadd) := ok_iadd (by decide +kernel) rfl
theorem o207_7 : OKp l S b Lx xs dC dI cA 207 7 (s_putI 12 20) := ok_putI (by decide +kernel) rfl fp_RX12_235 rfl
theorem o207_8 : OKp l S b Lx xs dC dI cA 207 8 (s_aload 0) := ok_aload_n (k9 := 0) (by decide +kernel) rfl rfl
theorem o207_9 : OKp l S b Lx xs dC dI cA 207 9 (s_getI (fun t => t == 12) 20) := ok_getI (by decide +kernel) rfl fd_RX12_235
theorem o207_10 : OKp l S b Lx xs dC dI cA 207 10 (s_const (2147483647)) := ok_ldc (k := 239) (by decide +kernel) w_1282 rfl
theorem o207_11 : OKp l S b Lx xs dC dI cA 207 11 (s_bin g_iand) := ok_iand (by decide +kernel) rfl
theorem o207_12 : OKp l S b Lx xs dC dI cA 207 12 (s_const (65536)) := ok_ldc (k := 240) (by decide +kernel) w_1283 rfl
theorem o207_13 : OKp l S b Lx xs dC dI cA 207 13 (s_dvr g_idiv) := ok_idiv (by decide +kernel) rfl
theorem o207_14 : OKp l S b Lx xs dC dI cA 207 14 (s_iload 1) := ok_iload_n (k9 := 1) (by decide +kernel) rfl rfl
theorem o207_15 : OKp l S b Lx xs dC dI cA 207 15 (s_dvr g_irem) := ok_irem (by decide +kernel) rfl
theorem o207_16 : OKp l S b Lx xs dC dI cA 207 16 (s_ret) := ok_ret (by decide +kernel) rfl
theorem a207 (hl9 : l.stackTraces = false) : sm_all (OKp l S b Lx xs dC dI cA 207) 0 sc_207 := ⟨o207_0, o207_1, o207_2, o207_3, o207_4, o207_5, o207_6, o207_7, o207_8, o207_9, o207_10, o207_11, o207_12, o207_13, o207_14, o207_15, o207_16, trivial⟩
theorem o208_0 : OKp l S b Lx xs dC dI cA 208 0 (s_iload 1) := ok_iload_n (k9 := 1) (by decide +kernel) rfl rfl
theorem o208_1 : OKp l S b Lx xs dC dI cA 208 1 (s_i2l) := ok_i2l (by decide +kernel) rfl
theorem o208_2 : OKp l S b Lx xs dC dI cA 208 2 (s_lconst 1) := ok_lconst (n := 1) (by decide +kernel) (by decide) rfl
theorem o208_3 : OKp l S b Lx xs dC dI cA 208 3 (s_lconst (40)) := ok_ldc2 (k := 229) (by decide +kernel) w_1268 rfl
theorem o208_4 : OKp l S b Lx xs dC dI cA 208 4 (s_invS 139 3 6) := ok_invS rfl rfl (by decide) (hXX 139 (by decide)) w_1012 w_1013 w_61 c_139 (by decide +kernel) (by decide +kernel) rfl
theorem o208_5 : OKp l S b Lx xs dC dI cA 208 5 (s_if (fun x => x ≠ 0) 8) := ok_if_ne (off := 5) (by decide +kernel) (by decide +kernel) rfl
theorem o208_6 : OKp l S b Lx xs dC dI cA 208 6 (s_const (-1)) := ok_iconst (n := -1) (by decide +kernel) (by decide) rfl
theorem o208_7 : OKp l S b Lx xs dC dI cA 208 7 (s_ret) := ok_ret (by decide +kernel) rfl
theorem o208_8 : OKp l S b Lx xs dC dI cA 208 8 (s_aload 0) := ok_aload_n (k9 := 0) (by decide +kernel) rfl rfl
theorem o208_9 : OKp l S b Lx xs dC dI cA 208 9 (s_getR (fun t => t == 12) 0) := ok_getR (by decide +kernel) rfl fd_RX12_9
theorem o208_10 : OKp l S b Lx xs dC dI cA 208 10 (s_const (1)) := ok_iconst (n := 1) (by decide +kernel) (by decide) rfl
theorem o208_11 : OKp l S b Lx xs dC dI cA 208 11 (s_iald) := ok_iald (by decide +kernel) rfl
theorem o208_12 : OKp l S b Lx xs dC dI cA 208 12 (s_if (fun x => x = 0) 18) := ok_if_eq (off := 12) (by decide +kernel) (by decide +kernel) rfl
theorem o208_13 : OKp l S b Lx xs dC dI cA 208 13 (s_aload 0) := ok_aload_n (k9 := 0) (by decide +kernel) rfl rfl
theorem o208_14 : OKp l S b Lx xs dC dI cA 208 14 (s_getR (fun t => t == 12) 0) := ok_getR (by decide +kernel) rfl fd_RX12_9
theorem o208_15 : OKp l S b Lx xs dC dI cA 208 15 (s_const (0)) := ok_iconst (n := 0) (by decide +kernel) (by decide) rfl
theorem o208_16 : OKp l S b Lx xs dC dI cA 208 16 (s_iald) := ok_iald (by decide +kernel) rfl
theorem o208_17 : OKp l S b Lx xs dC dI cA 208 17 (s_if (fun x => x ≠ 0) 20) := ok_if_ne (off := 6) (by decide +kernel) (by decide +kernel) rfl
theorem o208_18 : OKp l S b Lx xs dC dI cA 208 18 (s_const (-3)) := ok_bipush (n := -3) (by decide +kernel) (by decide) rfl
theorem o208_19 : OKp l S b Lx xs dC dI cA 208 19 (s_ret) := ok_ret (by decide +kernel) rfl
theorem o208_20 : OKp l S b Lx xs dC dI cA 208 20 (s_aload 0) := ok_aload_n (k9 := 0) (by decide +kernel) rfl rfl
theorem o208_21 : OKp l S b Lx xs dC dI cA 208 21 (s_invV (dv1 12 183 1) [] 0) := ok_invV (dv1_ok vc_RX12_184_12 rfl (by decide) (hXX 183 (by decide))) (by decide +kernel) rfl
theorem o208_22 : OKp l S b Lx xs dC dI cA 208 22 (s_aload 0) := ok_aload_n (k9 := 0) (by decide +kernel) rfl rfl
theorem o208_23 : OKp l S b Lx xs dC dI cA 208 23 (s_iload 2) := ok_iload_n (k9 := 2) (by decide +kernel) rfl rfl
theorem o208_24 : OKp l S b Lx xs dC dI cA 208 24 (s_putI 12 20) := ok_putI (by decide +kernel) rfl fp_RX12_235 rfl
theorem o208_25 : OKp l S b Lx xs dC dI cA 208 25 (s_const (0)) := ok_iconst (n := 0) (by decide +kernel) (by decide) rfl
theorem o208_26 : OKp l S b Lx xs dC dI cA 208 26 (s_istore 3) := ok_istore_n (k9 := 3) (by decide +kernel) rfl rfl
theorem o208_27 : OKp l S b Lx xs dC dI cA 208 27 (s_const (0)) := ok_iconst (n := 0) (by decide +kernel) (by decide) rfl
theorem o208_28 : OKp l S b Lx xs dC dI cA 208 28 (s_istore 4) := ok_istore (by decide +kernel) rfl
theorem o208_29 : OKp l S b Lx xs dC dI cA 208 29 (s_iload 4) := ok_iload (by decide +kernel) rfl
theorem o208_30 : OKp l S b Lx xs dC dI cA 208 30 (s_iload 1) := ok_iload_n (k9 := 1) (by decide +kernel) rfl rfl
theorem o208_31 : OKp l S b Lx xs dC dI cA 208 31 (s_icmp (fun x y => y ≤ x) 53) := ok_icmp_ge (off := 40) (by decide +kernel) (by decide +kernel) rfl
theorem o208_32 : OKp l S b Lx xs dC dI cA 208 32 (s_aload 0) := ok_aload_n (k9 := 0) (by decide +kernel) rfl rfl
theorem o208_33 : OKp l S b Lx xs dC dI cA 208 33 (s_aload 0) := ok_aload_n (k9 := 0) (by decide +kernel) rfl rfl
theorem o208_34 : OKp l S b Lx xs dC dI cA 208 34 (s_getR (fun t => t == 12) 0) := ok_getR (by decide +kernel) rfl fd_RX12_9
theorem o208_35 : OKp l S b Lx xs dC dI cA 208 35 (s_const (1)) := ok_iconst (n := 1) (by decide +kernel) (by decide) rfl
theorem o208_36 : OKp l S b Lx xs dC dI cA 208 36 (s_iald) := ok_iald (by decide +kernel) rfl
theorem o208_37 : OKp l S b Lx xs dC dI cA 208 37 (s_invV (dv1 12 207 2) [] 1) := ok_invV (dv1_ok vc_RX12_241_12 rfl (by decide) (hXX 207 (by decide))) (by decide +kernel) rfl
theorem o208_38 : OKp l S b Lx xs dC dI cA 208 38 (s_istore 5) := ok_istore (by decide +kernel) rfl
theorem o208_39 : OKp l S b Lx xs dC dI cA 208 39 (s_iload 3) := ok_iload_n (k9 := 3) (by decide +kernel) rfl rfl
theorem o208_40 : OKp l S b Lx xs dC dI cA 208 40 (s_aload 0) := ok_aload_n (k9 := 0) (by decide +kernel) rfl rfl
theorem o208_41 : OKp l S b Lx xs dC dI cA 208 41 (s_iload 5) := ok_iload (by decide +kernel) rfl
theorem o208_42 : OKp l S b Lx xs dC dI cA 208 42 (s_aload 0) := ok_aload_n (k9 := 0) (by decide +kernel) rfl rfl
theorem o208_43 : OKp l S b Lx xs dC dI cA 208 43 (s_aload 0) := ok_aload_n (k9 := 0) (by decide +kernel) rfl rfl
theorem o208_44 : OKp l S b Lx xs dC dI cA 208 44 (s_getR (fun t => t == 12) 0) := ok_getR (by decide +kernel) rfl fd_RX12_9
theorem o208_45 : OKp l S b Lx xs dC dI cA 208 45 (s_const (0)) := ok_iconst (n := 0) (by decide +kernel) (by decide) rfl
theorem o208_46 : OKp l S b Lx xs dC dI cA 208 46 (s_iald) := ok_iald (by decide +kernel) rfl
theorem o208_47 : OKp l S b Lx xs dC dI cA 208 47 (s_invV (dv1 12 207 2) [] 1) := ok_invV (dv1_ok vc_RX12_241_12 rfl (by decide) (hXX 207 (by decide))) (by decide +kernel) rfl
theorem o208_48 : OKp l S b Lx xs dC dI cA 208 48 (s_invV (dv1 12 162 5) [] 2) := ok_invV (dv1_ok vc_RX12_147_12 rfl (by decide) (hXX 162 (by decide))) (by decide +kernel) rfl
theorem o208_49 : OKp l S b Lx xs dC dI cA 208 49 (s_bin g_iadd) := ok_iadd (by decide +kernel) rfl
theorem o208_50 : OKp l S b Lx xs dC dI cA 208 50 (s_istore 3) := ok_istore_n (k9 := 3) (by decide +kernel) rfl rfl
theorem o208_51 : OKp l S b Lx xs dC dI cA 208 51 (s_iinc 4 (1)) := ok_iinc (n := 1) (by decide +kernel) (by decide) rfl
theorem o208_52 : OKp l S b Lx xs dC dI cA 208 52 (s_goto 29) := ok_goto (off := -40) (by decide +kernel) (by decide +kernel)
theorem o208_53 : OKp l S b Lx xs dC dI cA 208 53 (s_aload 0) := ok_aload_n (k9 := 0) (by decide +kernel) rfl rfl
theorem o208_54 : OKp l S b Lx xs dC dI cA 208 54 (s_invV (dv1 12 184 1) [] 0) := ok_invV (dv1_ok vc_RX12_196_12 rfl (by decide) (hXX 184 (by decide))) (by decide +kernel) rfl
theorem o208_55 : OKp l S b Lx xs dC dI cA 208 55 (s_iload 3) := ok_iload_n (k9 := 3) (by decide +kernel) rfl rfl
theorem o208_56 : OKp l S b Lx xs dC dI cA 208 56 (s_ret) := ok_ret (by decide +kernel) rfl
theorem a208 (hl9 : l.stackTraces = false) : sm_all (OKp l S b Lx xs dC dI cA 208) 0 sc_208 := ⟨o208_0, o208_1, o208_2, o208_3, o208_4, o208_5, o208_6, o208_7, o208_8, o208_9, o208_10, o208_11, o208_12, o208_13, o208_14, o208_15, o208_16, o208_17, o208_18, o208_19, o208_20, o208_21, o208_22, o208_23, o208_24, o208_25, o208_26, o208_27, o208_28, o208_29, o208_30, o208_31, o208_32, o208_33, o208_34, o208_35, o208_36, o208_37, o208_38, o208_39, o208_40, o208_41, o208_42, o208_43, o208_44, o208_45, o208_46, o208_47, o208_48, o208_49, o208_50, o208_51, o208_52, o208_53, o208_54, o208_55, o208_56, trivial⟩
theorem o209_0 : OKp l S b Lx xs dC dI cA 209 0 (s_aload 0) := ok_aload_n (k9 := 0) (by decide +kernel) rfl rfl
theorem o209_1 : OKp l S b Lx xs dC dI cA 209 1 (s_getR (fun t => t == 12) 7) := ok_getR (by decide +kernel) rfl fd_RX12_31
theorem o209_2 : OKp l S b Lx xs dC dI cA 209 2 (s_const (100)) := ok_bipush (n := 100) (by decide +kernel) (by decide) rfl
theorem o209_3 : OKp l S b Lx xs dC dI cA 209 3 (s_iload 1) := ok_iload_n (k9 := 1) (by decide +kernel) rfl rfl
theorem o209_4 : OKp l S b Lx xs dC dI cA 209 4 (s_bin g_imul) := ok_imul (by decide +kernel) rfl
theorem o209_5 : OKp l S b Lx xs dC dI cA 209 5 (s_iload 2) := ok_iload_n (k9 := 2) (by decide +kernel) rfl rfl
theorem o209_6 : OKp l S b Lx xs dC dI cA 209 6 (s_bin g_iadd) := ok_iadd (by decide +kernel) rfl
theorem o209_7 : OKp l S b Lx xs dC dI cA 209 7 (s_iald) := ok_iald (by decide +kernel) rfl
theorem o209_8 : OKp l S b Lx xs dC dI cA 209 8 (s_istore 3) := ok_istore_n (k9 := 3) (by decide +kernel) rfl rfl
theorem o209_9 : OKp l S b Lx xs dC dI cA 209 9 (s_aload 0) := ok_aload_n (k9 := 0) (by decide +kernel) rfl rfl
theorem o209_10 : OKp l S b Lx xs dC dI cA 209 10 (s_getR (fun t => t == 12) 7) := ok_getR (by decide +kernel) rfl fd_RX12_31
theorem o209_11 : OKp l S b Lx xs dC dI cA 209 11 (s_const (100)) := ok_bipush (n := 100) (by decide +kernel) (by decide) rfl
theorem o209_12 : OKp l S b Lx xs dC dI cA 209 12 (s_iload 1) := ok_iload_n (k9 := 1) (by decide +kernel) rfl rfl
theorem o209_13 : OKp l S b Lx xs dC dI cA 209 13 (s_bin g_imul) := ok_imul (by decide +kernel) rfl
theorem o209_14 : OKp l S b Lx xs dC dI cA 209 14 (s_iload 2) := ok_iload_n (k9 := 2) (by decide +kernel) rfl rfl
theorem o209_15 : OKp l S b Lx xs dC dI cA 209 15 (s_bin g_iadd) := ok_iadd (by decide +kernel) rfl
theorem o209_16 : OKp l S b Lx xs dC dI cA 209 16 (s_const (1)) := ok_iconst (n := 1) (by decide +kernel) (by decide) rfl
theorem o209_17 : OKp l S b Lx xs dC dI cA 209 17 (s_bin g_iadd) := ok_iadd (by decide +kernel) rfl
theorem o209_18 : OKp l S b Lx xs dC dI cA 209 18 (s_iald) := ok_iald (by decide +kernel) rfl
theorem o209_19 : OKp l S b Lx xs dC dI cA 209 19 (s_istore 4) := ok_istore (by decide +kernel) rfl
theorem o209_20 : OKp l S b Lx xs dC dI cA 209 20 (s_aload 0) := ok_aload_n (k9 := 0) (by decide +kernel) rfl rfl
theorem o209_21 : OKp l S b Lx xs dC dI cA 209 21 (s_iload 3) := ok_iload_n (k9 := 3) (by decide +kernel) rfl rfl
theorem o209_22 : OKp l S b Lx xs dC dI cA 209 22 (s_invV (dv1 12 142 2) [] 1) := ok_invV (dv1_ok vc_RX12_144_12 rfl (by decide) (hXX 142 (by decide))) (by decide +kernel) rfl
theorem o209_23 : OKp l S b Lx xs dC dI cA 209 23 (s_if (fun x => x ≠ 0) 26) := ok_if_ne (off := 7) (by decide +kernel) (by decide +kernel) rfl
theorem o209_24 : OKp l S b Lx xs dC dI cA 209 24 (s_iload 2) := ok_iload_n (k9 := 2) (by decide +kernel) rfl rfl
theorem o209_25 : OKp l S b Lx xs dC dI cA 209 25 (s_goto 54) := ok_goto (off := 49) (by decide +kernel) (by decide +kernel)
theorem o209_26 : OKp l S b Lx xs dC dI cA 209 26 (s_aload 0) := ok_aload_n (k9 := 0) (by decide +kernel) rfl rfl
theorem o209_27 : OKp l S b Lx xs dC dI cA 209 27 (s_iload 4) := ok_iload (by decide +kernel) rfl
theorem o209_28 : OKp l S b Lx xs dC dI cA 209 28 (s_invV (dv1 12 141 2) [] 1) := ok_invV (dv1_ok vc_RX12_59_12 rfl (by decide) (hXX 141 (by decide))) (by decide +kernel) rfl
theorem o209_29 : OKp l S b Lx xs dC dI cA 209 29 (s_if (fun x => x ≠ 0) 34) := ok_if_ne (off := 9) (by decide +kernel) (by decide +kernel) rfl
theorem o209_30 : OKp l S b Lx xs dC dI cA 209 30 (s_iload 2) := ok_iload_n (k9 := 2) (by decide +kernel) rfl rfl
theorem o209_31 : OKp l S b Lx xs dC dI cA 209 31 (s_const (1)) := ok_iconst (n := 1) (by decide +kernel) (by decide) rfl
theorem o209_32 : OKp l S b Lx xs dC dI cA 209 32 (s_bin g_iadd) := ok_iadd (by decide +kernel) rfl
theorem o209_33 : OKp l S b Lx xs dC dI cA 209 33 (s_goto 54) := ok_goto (off := 34) (by decide +kernel) (by decide +kernel)
theorem o209_34 : OKp l S b Lx xs dC dI cA 209 34 (s_aload 0) := ok_aload_n (k9 := 0) (by decide +kernel) rfl rfl
theorem o209_35 : OKp l S b Lx xs dC dI cA 209 35 (s_iload 3) := ok_iload_n (k9 := 3) (by decide +kernel) rfl rfl
theorem o209_36 : OKp l S b Lx xs dC dI cA 209 36 (s_iload 4) := ok_iload (by decide +kernel) rfl
theorem o209_37 : OKp l S b Lx xs dC dI cA 209 37 (s_invV (dv1 12 162 5) [] 2) := ok_invV (dv1_ok vc_RX12_147_12 rfl (by decide) (hXX 162 (by decide))) (by decide +kernel) rfl
theorem o209_38 : OKp l S b Lx xs dC dI cA 209 38 (s_aload 0) := ok_aload_n (k9 := 0) (by decide +kernel) rfl rfl
theorem o209_39 : OKp l S b Lx xs dC dI cA 209 39 (s_getR (fun t => t == 12) 7) := ok_getR (by decide +kernel) rfl fd_RX12_31
theorem o209_40 : OKp l S b Lx xs dC dI cA 209 40 (s_const (100)) := ok_bipush (n := 100) (by decide +kernel) (by decide) rfl
theorem o209_41 : OKp l S b Lx xs dC dI cA 209 41 (s_iload 1) := ok_iload_n (k9 := 1) (by decide +kernel) rfl rfl
theorem o209_42 : OKp l S b Lx xs dC dI cA 209 42 (s_bin g_imul) := ok_imul (by decide +kernel) rfl
theorem o209_43 : OKp l S b Lx xs dC dI cA 209 43 (s_iload 2) := ok_iload_n (k9 := 2) (by decide +kernel) rfl rfl
theorem o209_44 : OKp l S b Lx xs dC dI cA 209 44 (s_bin g_iadd) := ok_iadd (by decide +kernel) rfl
theorem o209_45 : OKp l S b Lx xs dC dI cA 209 45 (s_const (2)) := ok_iconst (n := 2) (by decide +kernel) (by decide) rfl
theorem o209_46 : OKp l S b Lx xs dC dI cA 209 46 (s_bin g_iadd) := ok_iadd (by decide +kernel) rfl
theorem o209_47 : OKp l S b Lx xs dC dI cA 209 47 (s_iald) := ok_iald (by decide +kernel) rfl
theorem o209_48 : OKp l S b Lx xs dC dI cA 209 48 (s_icmp (fun x y => x = y) 53) := ok_icmp_eq (off := 9) (by decide +kernel) (by decide +kernel) rfl
theorem o209_49 : OKp l S b Lx xs dC dI cA 209 49 (s_iload 2) := ok_iload_n (k9 := 2) (by decide +kernel) rfl rfl
theorem o209_50 : OKp l S b Lx xs dC dI cA 209 50 (s_const (2)) := ok_iconst (n := 2) (by decide +kernel) (by decide) rfl
theorem o209_51 : OKp l S b Lx xs dC dI cA 209 51 (s_bin g_iadd) := ok_iadd (by decide +kernel) rfl
theorem o209_52 : OKp l S b Lx xs dC dI cA 209 52 (s_goto 54) := ok_goto (off := 5) (by decide +kernel) (by decide +kernel)
theorem o209_53 : OKp l S b Lx xs dC dI cA 209 53 (s_const (-4)) := ok_bipush (n := -4) (by decide +kernel) (by decide) rfl
theorem o209_54 : OKp l S b Lx xs dC dI cA 209 54 (s_ret) := ok_ret (by decide +kernel) rfl
theorem a209 (hl9 : l.stackTraces = false) : sm_all (OKp l S b Lx xs dC dI cA 209) 0 sc_209 := ⟨o209_0, o209_1, o209_2, o209_3, o209_4, o209_5, o209_6, o209_7, o209_8, o209_9, o209_10, o209_11, o209_12, o209_13, o209_14, o209_15, o209_16, o209_17, o209_18, o209_19, o209_20, o209_21, o209_22, o209_23, o209_24, o209_25, o209_26, o209_27, o209_28, o209_29, o209_30, o209_31, o209_32, o209_33, o209_34, o209_35, o209_36, o209_37, o209_38, o209_39, o209_40, o209_41, o209_42, o209_43, o209_44, o209_45, o209_46, o209_47, o209_48, o209_49, o209_50, o209_51, o209_52, o209_53, o209_54, trivial⟩
theorem o210_0 : OKp l S b Lx xs dC dI cA 210 0 (s_aload 0) := ok_aload_n (k9 := 0) (by decide +kernel) rfl rfl
theorem o210_1 : OKp l S b Lx xs dC dI cA 210 1 (s_iload 1) := ok_iload_n (k9 := 1) (by decide +kernel) rfl rfl
theorem o210_2 : OKp l S b Lx xs dC dI cA 210 2 (s_const (-1)) := ok_iconst (n := -1) (by decide +kernel) (by decide) rfl
theorem o210_3 : OKp l S b Lx xs dC dI cA 210 3 (s_invV (dv1 12 168 3) [] 2) := ok_invV (dv1_ok vc_RX12_153_12 rfl (by decide) (hXX 168 (by decide))) (by decide +kernel) rfl
theorem o210_4 : OKp l S b Lx xs dC dI cA 210 4 (s_istore 2) := ok_istore_n (k9 := 2) (by decide +kernel) rfl rfl
theorem o210_5 : OKp l S b Lx xs dC dI cA 210 5 (s_iload 2) := ok_iload_n (k9 := 2) (by decide +kernel) rfl rfl
theorem o210_6 : OKp l S b Lx xs dC dI cA 210 6 (s_if (fun x => x = 0) 9) := ok_if_eq (off := 5) (by decide +kernel) (by decide +kernel) rfl
theorem o210_7 : OKp l S b Lx xs dC dI cA 210 7 (s_iload 2) := ok_iload_n (k9 := 2) (by decide +kernel) rfl rfl
theorem o210_8 : OKp l S b Lx xs dC dI cA 210 8 (s_ret) := ok_ret (by decide +kernel) rfl
theorem o210_9 : OKp l S b Lx xs dC dI cA 210 9 (s_aload 0) := ok_aload_n (k9 := 0) (by decide +kernel) rfl rfl
theorem o210_10 : OKp l S b Lx xs dC dI cA 210 10 (s_invV (dv1 12 183 1) [] 0) := ok_invV (dv1_ok vc_RX12_184_12 rfl (by decide) (hXX 183 (by decide))) (by decide +kernel) rfl
theorem o210_11 : OKp l S b Lx xs dC dI cA 210 11 (s_const (-4)) := ok_bipush (n := -4) (by decide +kernel) (by decide) rfl
theorem o210_12 : OKp l S b Lx xs dC dI cA 210 12 (s_istore 3) := ok_istore_n (k9 := 3) (by decide +kernel) rfl rfl
theorem o210_13 : OKp l S b Lx xs dC dI cA 210 13 (s_const (0)) := ok_iconst (n := 0) (by decide +kernel) (by decide) rfl
theorem o210_14 : OKp l S b Lx xs dC dI cA 210 14 (s_istore 4) := ok_istore (by decide +kernel) rfl
theorem o210_15 : OKp l S b Lx xs dC dI cA 210 15 (s_iload 4) := ok_iload (by decide +kernel) rfl
theorem o210_16 : OKp l S b Lx xs dC dI cA 210 16 (s_const (2)) := ok_iconst (n := 2) (by decide +kernel) (by decide) rfl
theorem o210_17 : OKp l S b Lx xs dC dI cA 210 17 (s_bin g_iadd) := ok_iadd (by decide +kernel) rfl
theorem o210_18 : OKp l S b Lx xs dC dI cA 210 18 (s_aload 0) := ok_aload_n (k9 := 0) (by decide +kernel) rfl rfl
theorem o210_19 : OKp l S b Lx xs dC dI cA 210 19 (s_getR (fun t => t == 12) 6) := ok_getR (by decide +kernel) rfl fd_RX12_28
theorem o210_20 : OKp l S b Lx xs dC dI cA 210 20 (s_iload 1) := ok_iload_n (k9 := 1) (by decide +kernel) rfl rfl
theorem o210_21 : OKp l S b Lx xs dC dI cA 210 21 (s_iald) := ok_iald (by decide +kernel) rfl
theorem o210_22 : OKp l S b Lx xs dC dI cA 210 22 (s_icmp (fun x y => y ≤ x) 32) := ok_icmp_ge (off := 21) (by decide +kernel) (by decide +kernel) rfl
theorem o210_23 : OKp l S b Lx xs dC dI cA 210 23 (s_iload 3) := ok_iload_n (k9 := 3) (by decide +kernel) rfl rfl
theorem o210_24 : OKp l S b Lx xs dC dI cA 210 24 (s_if (fun x => 0 ≤ x) 32) := ok_if_ge (off := 17) (by decide +kernel) (by decide +kernel) rfl
theorem o210_25 : OKp l S b Lx xs dC dI cA 210 25 (s_aload 0) := ok_aload_n (k9 := 0) (by decide +kernel) rfl rfl
theorem o210_26 : OKp l S b Lx xs dC dI cA 210 26 (s_iload 1) := ok_iload_n (k9 := 1) (by decide +kernel) rfl rfl
theorem o210_27 : OKp l S b Lx xs dC dI cA 210 27 (s_iload 4) := ok_iload (by decide +kernel) rfl
theorem o210_28 : OKp l S b Lx xs dC dI cA 210 28 (s_invV (dv1 12 209 5) [] 2) := ok_invV (dv1_ok vc_RX12_244_12 rfl (by decide) (hXX 209 (by decide))) (by decide +kernel) rfl
theorem o210_29 : OKp l S b Lx xs dC dI cA 210 29 (s_istore 3) := ok_istore_n (k9 := 3) (by decide +kernel) rfl rfl
theorem o210_30 : OKp l S b Lx xs dC dI cA 210 30 (s_iinc 4 (3)) := ok_iinc (n := 3) (by decide +kernel) (by decide) rfl
theorem o210_31 : OKp l S b Lx xs dC dI cA 210 31 (s_goto 15) := ok_goto (off := -28) (by decide +kernel) (by decide +kernel)
theorem o210_32 : OKp l S b Lx xs dC dI cA 210 32 (s_aload 0) := ok_aload_n (k9 := 0) (by decide +kernel) rfl rfl
theorem o210_33 : OKp l S b Lx xs dC dI cA 210 33 (s_invV (dv1 12 184 1) [] 0) := ok_invV (dv1_ok vc_RX12_196_12 rfl (by decide) (hXX 184 (by decide))) (by decide +kernel) rfl
theorem o210_34 : OKp l S b Lx xs dC dI cA 210 34 (s_iload 3) := ok_iload_n (k9 := 3) (by decide +kernel) rfl rfl
theorem o210_35 : OKp l S b Lx xs dC dI cA 210 35 (s_if (fun x => 0 ≤ x) 43) := ok_if_ge (off := 14) (by decide +kernel) (by decide +kernel) rfl
theorem o210_36 : OKp l S b Lx xs dC dI cA 210 36 (s_aload 0) := ok_aload_n (k9 := 0) (by decide +kernel) rfl rfl
theorem o210_37 : OKp l S b Lx xs dC dI cA 210 37 (s_getR (fun t => t == 12) 6) := ok_getR (by decide +kernel) rfl fd_RX12_28
theorem o210_38 : OKp l S b Lx xs dC dI cA 210 38 (s_iload 1) := ok_iload_n (k9 := 1) (by decide +kernel) rfl rfl
theorem o210_39 : OKp l S b Lx xs dC dI cA 210 39 (s_iald) := ok_iald (by decide +kernel) rfl
theorem o210_40 : OKp l S b Lx xs dC dI cA 210 40 (s_const (3)) := ok_iconst (n := 3) (by decide +kernel) (by decide) rfl
theorem o210_41 : OKp l S b Lx xs dC dI cA 210 41 (s_dvr g_irem) := ok_irem (by decide +kernel) rfl
theorem o210_42 : OKp l S b Lx xs dC dI cA 210 42 (s_if (fun x => x ≠ 0) 45) := ok_if_ne (off := 7) (by decide +kernel) (by decide +kernel) rfl
theorem o210_43 : OKp l S b Lx xs dC dI cA 210 43 (s_iload 3) := ok_iload_n (k9 := 3) (by decide +kernel) rfl rfl
theorem o210_44 : OKp l S b Lx xs dC dI cA 210 44 (s_goto 46) := ok_goto (off := 5) (by decide +kernel) (by decide +kernel)
theorem o210_45 : OKp l S b Lx xs dC dI cA 210 45 (s_iload 4) := ok_iload (by decide +kernel) rfl
theorem o210_46 : OKp l S b Lx xs dC dI cA 210 46 (s_ret) := ok_ret (by decide +kernel) rfl
theorem a210 (hl9 : l.stackTraces = false) : sm_all (OKp l S b Lx xs dC dI cA 210) 0 sc_210 := ⟨o210_0, o210_1, o210_2, o210_3, o210_4, o210_5, o210_6, o210_7, o210_8, o210_9, o210_10, o210_11, o210_12, o210_13, o210_14, o210_15, o210_16, o210_17, o210_18, o210_19, o210_20, o210_21, o210_22, o210_23, o210_24, o210_25, o210_26, o210_27, o210_28, o210_29, o210_30, o210_31, o210_32, o210_33, o210_34, o210_35, o210_36, o210_37, o210_38, o210_39, o210_40, o210_41, o210_42, o210_43, o210_44, o210_45, o210_46, trivial⟩
theorem o211_0 : OKp l S b Lx xs dC dI cA 211 0 (s_aload 0) := ok_aload_n (k9 := 0) (by decide +kernel) rfl rfl
theorem o211_1 : OKp l S b Lx xs dC dI cA 211 1 (s_getR (fun t => t == 12) 0) := ok_getR (by decide +kernel) rfl fd_RX12_9
theorem o211_2 : OKp l S b Lx xs dC dI cA 211 2 (s_aload 0) := ok_aload_n (k9 := 0) (by decide +kernel) rfl rfl
theorem o211_3 : OKp l S b Lx xs dC dI cA 211 3 (s_getR (fun t => t == 12) 1) := ok_getR (by decide +kernel) rfl fd_RX12_13
theorem o211_4 : OKp l S b Lx xs dC dI cA 211 4 (s_invS 152 2 3) := ok_invS rfl rfl (by decide) (hXX 152 (by decide)) w_1029 w_1030 w_61 c_152 (by decide +kernel) (by decide +kernel) rfl
theorem o211_5 : OKp l S b Lx xs dC dI cA 211 5 (s_aload 0) := ok_aload_n (k9 := 0) (by decide +kernel) rfl rfl
theorem o211_6 : OKp l S b Lx xs dC dI cA 211 6 (s_const (1)) := ok_iconst (n := 1) (by decide +kernel) (by decide) rfl
theorem o211_7 : OKp l S b Lx xs dC dI cA 211 7 (s_putZ 12 10) := ok_putZ (by decide +kernel) rfl fp_RX12_247 rfl
theorem o211_8 : OKp l S b Lx xs dC dI cA 211 8 (s_aload 0) := ok_aload_n (k9 := 0) (by decide +kernel) rfl rfl
theorem o211_9 : OKp l S b Lx xs dC dI cA 211 9 (s_getR (fun t => t == 12) 0) := ok_getR (by decide +kernel) rfl fd_RX12_9
theorem o211_10 : OKp l S b Lx xs dC dI cA 211 10 (s_const (2)) := ok_iconst (n := 2) (by decide +kernel) (by decide) rfl
theorem o211_11 : OKp l S b Lx xs dC dI cA 211 11 (s_iald) := ok_iald (by decide +kernel) rfl
theorem o211_12 : OKp l S b Lx xs dC dI cA 211 12 (s_ret) := ok_ret (by decide +kernel) rfl
theorem a211 (hl9 : l.stackTraces = false) : sm_all (OKp l S b Lx xs dC dI cA 211) 0 sc_211 := ⟨o211_0, o211_1, o211_2, o211_3, o211_4, o211_5, o211_6, o211_7, o211_8, o211_9, o211_10, o211_11, o211_12, trivial⟩
theorem o212_0 : OKp l S b Lx xs dC dI cA 212 0 (s_aload 0) := ok_aload_n (k9 := 0) (by decide +kernel) rfl rfl
theorem o212_1 : OKp l S b Lx xs dC dI cA 212 1 (s_getI (fun t => t == 12) 10) := ok_getI (by decide +kernel) rfl fd_RX12_247
theorem o212_2 : OKp l S b Lx xs dC dI cA 212 2 (s_if (fun x => x ≠ 0) 5) := ok_if_ne (off := 6) (by decide +kernel) (by decide +kernel) rfl
theorem o212_3 : OKp l S b Lx xs dC dI cA 212 3 (s_const (-3)) := ok_bipush (n := -3) (by decide +kernel) (by decide) rfl
theorem o212_4 : OKp l S b Lx xs dC dI cA 212 4 (s_ret) := ok_ret (by decide +kernel) rfl
theorem o212_5 : OKp l S b Lx xs dC dI cA 212 5 (s_aload 0) := ok_aload_n (k9 := 0) (by decide +kernel) rfl rfl
theorem o212_6 : OKp l S b Lx xs dC dI cA 212 6 (s_getR (fun t => t == 12) 1) := ok_getR (by decide +kernel) rfl fd_RX12_13
theorem o212_7 : OKp l S b Lx xs dC dI cA 212 7 (s_aload 0) := ok_aload_n (k9 := 0) (by decide +kernel) rfl rfl
theorem o212_8 : OKp l S b Lx xs dC dI cA 212 8 (s_getR (fun t => t == 12) 0) := ok_getR (by decide +kernel) rfl fd_RX12_9
theorem o212_9 : OKp l S b Lx xs dC dI cA 212 9 (s_invS 152 2 3) := ok_invS rfl rfl (by decide) (hXX 152 (by decide)) w_1029 w_1030 w_61 c_152 (by decide +kernel) (by decide +kernel) rfl
theorem o212_10 : OKp l S b Lx xs dC dI cA 212 10 (s_aload 0) := ok_aload_n (k9 := 0) (by decide +kernel) rfl rfl
theorem o212_11 : OKp l S b Lx xs dC dI cA 212 11 (s_getR (fun t => t == 12) 0) := ok_getR (by decide +kernel) rfl fd_RX12_9
theorem o212_12 : OKp l S b Lx xs dC dI cA 212 12 (s_const (2)) := ok_iconst (n := 2) (by decide +kernel) (by decide) rfl
theorem o212_13 : OKp l S b Lx xs dC dI cA 212 13 (s_iald) := ok_iald (by decide +kernel) rfl
theorem o212_14 : OKp l S b Lx xs dC dI cA 212 14 (s_ret) := ok_ret (by decide +kernel) rfl
theorem a212 (hl9 : l.stackTraces = false) : sm_all (OKp l S b Lx xs dC dI cA 212) 0 sc_212 := ⟨o212_0, o212_1, o212_2, o212_3, o212_4, o212_5, o212_6, o212_7, o212_8, o212_9, o212_10, o212_11, o212_12, o212_13, o212_14, trivial⟩
theorem o213_0 : OKp l S b Lx xs dC dI cA 213 0 (s_iload 1) := ok_iload_n (k9 := 1) (by decide +kernel) rfl rfl
theorem o213_1 : OKp l S b Lx xs dC dI cA 213 1 (s_sw [(0, 2), (1, 2), (2, 2), (3, 7), (4, 10)] 16) := ok_table (dflt := 57) (lo := 0) (hi := 4) (offs := #[35, 35, 35, 42, 47]) (len := 35) (by decide +kernel) (by decide +kernel) (by decide +kernel) (by decide +kernel) (by decide +kernel)
theorem o213_2 : OKp l S b Lx xs dC dI cA 213 2 (s_aload 0) := ok_aload_n (k9 := 0) (by decide +kernel) rfl rfl
theorem o213_3 : OKp l S b Lx xs dC dI cA 213 3 (s_getR (fun t => t == 12) 0) := ok_getR (by decide +kernel) rfl fd_RX12_9
theorem o213_4 : OKp l S b Lx xs dC dI cA 213 4 (s_iload 1) := ok_iload_n (k9 := 1) (by decide +kernel) rfl rfl
theorem o213_5 : OKp l S b Lx xs dC dI cA 213 5 (s_iald) := ok_iald (by decide +kernel) rfl
theorem o213_6 : OKp l S b Lx xs dC dI cA 213 6 (s_ret) := ok_ret (by decide +kernel) rfl
theorem o213_7 : OKp l S b Lx xs dC dI cA 213 7 (s_aload 0) := ok_aload_n (k9 := 0) (by decide +kernel) rfl rfl
theorem o213_8 : OKp l S b Lx xs dC dI cA 213 8 (s_invV (dv1 12 186 3) [] 0) := ok_invV (dv1_ok vc_RX12_193_12 rfl (by decide) (hXX 186 (by decide))) (by decide +kernel) rfl
theorem o213_9 : OKp l S b Lx xs dC dI cA 213 9 (s_ret) := ok_ret (by decide +kernel) rfl
theorem o213_10 : OKp l S b Lx xs dC dI cA 213 10 (s_aload 0) := ok_aload_n (k9 := 0) (by decide +kernel) rfl rfl
theorem o213_11 : OKp l S b Lx xs dC dI cA 213 11 (s_invV (dv1 12 187 3) [] 0) := ok_invV (dv1_ok vc_RX12_190_12 rfl (by decide) (hXX 187 (by decide))) (by decide +kernel) rfl
theorem o213_12 : OKp l S b Lx xs dC dI cA 213 12 (s_aload 0) := ok_aload_n (k9 := 0) (by decide +kernel) rfl rfl
theorem o213_13 : OKp l S b Lx xs dC dI cA 213 13 (s_invV (dv1 12 186 3) [] 0) := ok_invV (dv1_ok vc_RX12_193_12 rfl (by decide) (hXX 186 (by decide))) (by decide +kernel) rfl
theorem o213_14 : OKp l S b Lx xs dC dI cA 213 14 (s_bin g_isub) := ok_isub (by decide +kernel) rfl
theorem o213_15 : OKp l S b Lx xs dC dI cA 213 15 (s_ret) := ok_ret (by decide +kernel) rfl
theorem o213_16 : OKp l S b Lx xs dC dI cA 213 16 (s_const (-1)) := ok_iconst (n := -1) (by decide +kernel) (by decide) rfl
theorem o213_17 : OKp l S b Lx xs dC dI cA 213 17 (s_ret) := ok_ret (by decide +kernel) rfl
theorem a213 (hl9 : l.stackTraces = false) : sm_all (OKp l S b Lx xs dC dI cA 213) 0 sc_213 := ⟨o213_0, o213_1, o213_2, o213_3, o213_4, o213_5, o213_6, o213_7, o213_8, o213_9, o213_10, o213_11, o213_12, o213_13, o213_14, o213_15, o213_16, o213_17, trivial⟩
theorem o214_0 : OKp l S b Lx xs dC dI cA 214 0 (s_iload 0) := ok_iload_n (k9 := 0) (by decide +kernel) rfl rfl
theorem o214_1 : OKp l S b Lx xs dC dI cA 214 1 (s_sw [(1, 2), (2, 6), (3, 8), (4, 14), (5, 20), (6, 22), (7, 26)] 28) := ok_table (dflt := 72) (lo := 1) (hi := 7) (offs := #[43, 47, 49, 56, 62, 65, 69]) (len := 43) (by decide +kernel) (by decide +kernel) (by decide +kernel) (by decide +kernel) (by decide +kernel)
theorem o214_2 : OKp l S b Lx xs dC dI cA 214 2 (s_const (3)) := ok_iconst (n := 3) (by decide +kernel) (by decide) rfl
theorem o214_3 : OKp l S b Lx xs dC dI cA 214 3 (s_iload 1) := ok_iload_n (k9 := 1) (by decide +kernel) rfl rfl
theorem o214_4 : OKp l S b Lx xs dC dI cA 214 4 (s_bin g_iadd) := ok_iadd (by decide +kernel) rfl
theorem o214_5 : OKp l S b Lx xs dC dI cA 214 5 (s_ret) := ok_ret (by decide +kernel) rfl
theorem o214_6 : OKp l S b Lx xs dC dI cA 214 6 (s_const (2)) := ok_iconst (n := 2) (by decide +kernel) (by decide) rfl
theorem o214_7 : OKp l S b Lx xs dC dI cA 214 7 (s_ret) := ok_ret (by decide +kernel) rfl
theorem o214_8 : OKp l S b Lx xs dC dI cA 214 8 (s_const (6)) := ok_bipush (n := 6) (by decide +kernel) (by decide) rfl
theorem o214_9 : OKp l S b Lx xs dC dI cA 214 9 (s_const (2)) := ok_iconst (n := 2) (by decide +kernel) (by decide) rfl
theorem o214_10 : OKp l S b Lx xs dC dI cA 214 10 (s_iload 1) := ok_iload_n (k9 := 1) (by decide +kernel) rfl rfl
theorem o214_11 : OKp l S b Lx xs dC dI cA 214 11 (s_bin g_imul) := ok_imul (by decide +kernel) rfl
theorem o214_12 : OKp l S b Lx xs dC dI cA 214 12 (s_bin g_iadd) := ok_iadd (by decide +kernel) rfl
theorem o214_13 : OKp l S b Lx xs dC dI cA 214 13 (s_ret) := ok_ret (by decide +kernel) rfl
theorem o214_14 : OKp l S b Lx xs dC dI cA 214 14 (s_const (3)) := ok_iconst (n := 3) (by decide +kernel) (by decide) rfl
theorem o214_15 : OKp l S b Lx xs dC dI cA 214 15 (s_iload 1) := ok_iload_n (k9 := 1) (by decide +kernel) rfl rfl
theorem o214_16 : OKp l S b Lx xs dC dI cA 214 16 (s_const (1)) := ok_iconst (n := 1) (by decide +kernel) (by decide) rfl
theorem o214_17 : OKp l S b Lx xs dC dI cA 214 17 (s_bin g_iadd) := ok_iadd (by decide +kernel) rfl
theorem o214_18 : OKp l S b Lx xs dC dI cA 214 18 (s_bin g_imul) := ok_imul (by decide +kernel) rfl
theorem o214_19 : OKp l S b Lx xs dC dI cA 214 19 (s_ret) := ok_ret (by decide +kernel) rfl
theorem o214_20 : OKp l S b Lx xs dC dI cA 214 20 (s_const (8)) := ok_bipush (n := 8) (by decide +kernel) (by decide) rfl
theorem o214_21 : OKp l S b Lx xs dC dI cA 214 21 (s_ret) := ok_ret (by decide +kernel) rfl
theorem o214_22 : OKp l S b Lx xs dC dI cA 214 22 (s_const (3)) := ok_iconst (n := 3) (by decide +kernel) (by decide) rfl
theorem o214_23 : OKp l S b Lx xs dC dI cA 214 23 (s_iload 1) := ok_iload_n (k9 := 1) (by decide +kernel) rfl rfl
theorem o214_24 : OKp l S b Lx xs dC dI cA 214 24 (s_bin g_isub) := ok_isub (by decide +kernel) rfl
theorem o214_25 : OKp l S b Lx xs dC dI cA 214 25 (s_ret) := ok_ret (by decide +kernel) rfl
theorem o214_26 : OKp l S b Lx xs dC dI cA 214 26 (s_const (6)) := ok_bipush (n := 6) (by decide +kernel) (by decide) rfl
theorem o214_27 : OKp l S b Lx xs dC dI cA 214 27 (s_ret) := ok_ret (by decide +kernel) rfl
theorem o214_28 : OKp l S b Lx xs dC dI cA 214 28 (s_const (3)) := ok_iconst (n := 3) (by decide +kernel) (by decide) rfl
theorem o214_29 : OKp l S b Lx xs dC dI cA 214 29 (s_ret) := ok_ret (by decide +kernel) rfl
theorem a214 (hl9 : l.stackTraces = false) : sm_all (OKp l S b Lx xs dC dI cA 214) 0 sc_214 := ⟨o214_0, o214_1, o214_2, o214_3, o214_4, o214_5, o214_6, o214_7, o214_8, o214_9, o214_10, o214_11, o214_12, o214_13, o214_14, o214_15, o214_16, o214_17, o214_18, o214_19, o214_20, o214_21, o214_22, o214_23, o214_24, o214_25, o214_26, o214_27, o214_28, o214_29, trivial⟩
theorem o215_0 : OKp l S b Lx xs dC dI cA 215 0 (s_iload 1) := ok_iload_n (k9 := 1) (by decide +kernel) rfl rfl
theorem o215_1 : OKp l S b Lx xs dC dI cA 215 1 (s_invS 140 1 1) := ok_invS rfl rfl (by decide) (hXX 140 (by decide)) w_1008 w_1009 w_61 c_140 (by decide +kernel) (by decide +kernel) rfl
theorem o215_2 : OKp l S b Lx xs dC dI cA 215 2 (s_if (fun x => x = 0) 16) := ok_if_eq (off := 27) (by decide +kernel) (by decide +kernel) rfl
theorem o215_3 : OKp l S b Lx xs dC dI cA 215 3 (s_iload 2) := ok_iload_n (k9 := 2) (by decide +kernel) rfl rfl
theorem o215_4 : OKp l S b Lx xs dC dI cA 215 4 (s_i2l) := ok_i2l (by decide +kernel) rfl
theorem o215_5 : OKp l S b Lx xs dC dI cA 215 5 (s_lconst 0) := ok_lconst (n := 0) (by decide +kernel) (by decide) rfl
theorem o215_6 : OKp l S b Lx xs dC dI cA 215 6 (s_lconst 1) := ok_lconst (n := 1) (by decide +kernel) (by decide) rfl
theorem o215_7 : OKp l S b Lx xs dC dI cA 215 7 (s_invS 139 3 6) := ok_invS rfl rfl (by decide) (hXX 139 (by decide)) w_1012 w_1013 w_61 c_139 (by decide +kernel) (by decide +kernel) rfl
theorem o215_8 : OKp l S b Lx xs dC dI cA 215 8 (s_if (fun x => x = 0) 16) := ok_if_eq (off := 17) (by decide +kernel) (by decide +kernel) rfl
theorem o215_9 : OKp l S b Lx xs dC dI cA 215 9 (s_iload 2) := ok_iload_n (k9 := 2) (by decide +kernel) rfl rfl
theorem o215_10 : OKp l S b Lx xs dC dI cA 215 10 (s_const (1)) := ok_iconst (n := 1) (by decide +kernel) (by decide) rfl
theorem o215_11 : OKp l S b Lx xs dC dI cA 215 11 (s_icmp (fun x y => x ≠ y) 18) := ok_icmp_ne (off := 14) (by decide +kernel) (by decide +kernel) rfl
theorem o215_12 : OKp l S b Lx xs dC dI cA 215 12 (s_iload 3) := ok_iload_n (k9 := 3) (by decide +kernel) rfl rfl
theorem o215_13 : OKp l S b Lx xs dC dI cA 215 13 (s_iload 4) := ok_iload (by decide +kernel) rfl
theorem o215_14 : OKp l S b Lx xs dC dI cA 215 14 (s_invS 195 2 2) := ok_invS rfl rfl (by decide) (hXX 195 (by decide)) w_1226 w_1227 w_61 c_195 (by decide +kernel) (by decide +kernel) rfl
theorem o215_15 : OKp l S b Lx xs dC dI cA 215 15 (s_if (fun x => x ≠ 0) 18) := ok_if_ne (off := 5) (by decide +kernel) (by decide +kernel) rfl
theorem o215_16 : OKp l S b Lx xs dC dI cA 215 16 (s_const (-1)) := ok_iconst (n := -1) (by decide +kernel) (by decide) rfl
theorem o215_17 : OKp l S b Lx xs dC dI cA 215 17 (s_ret) := ok_ret (by decide +kernel) rfl
theorem o215_18 : OKp l S b Lx xs dC dI cA 215 18 (s_aload 0) := ok_aload_n (k9 := 0) (by decide +kernel) rfl rfl
theorem o215_19 : OKp l S b Lx xs dC dI cA 215 19 (s_getR (fun t => t == 12) 4) := ok_getR (by decide +kernel) rfl fd_RX12_22
theorem o215_20 : OKp l S b Lx xs dC dI cA 215 20 (s_iload 1) := ok_iload_n (k9 := 1) (by decide +kernel) rfl rfl
theorem o215_21 : OKp l S b Lx xs dC dI cA 215 21 (s_iload 2) := ok_iload_n (k9 := 2) (by decide +kernel) rfl rfl
theorem o215_22 : OKp l S b Lx xs dC dI cA 215 22 (s_iast) := ok_iast (by decide +kernel) rfl
theorem o215_23 : OKp l S b Lx xs dC dI cA 215 23 (s_aload 0) := ok_aload_n (k9 := 0) (by decide +kernel) rfl rfl
theorem o215_24 : OKp l S b Lx xs dC dI cA 215 24 (s_getR (fun t => t == 12) 8) := ok_getR (by decide +kernel) rfl fd_RX12_34
theorem o215_25 : OKp l S b Lx xs dC dI cA 215 25 (s_iload 1) := ok_iload_n (k9 := 1) (by decide +kernel) rfl rfl
theorem o215_26 : OKp l S b Lx xs dC dI cA 215 26 (s_iload 3) := ok_iload_n (k9 := 3) (by decide +kernel) rfl rfl
theorem o215_27 : OKp l S b Lx xs dC dI cA 215 27 (s_iast) := ok_iast (by decide +kernel) rfl
theorem o215_28 : OKp l S b Lx xs dC dI cA 215 28 (s_aload 0) := ok_aload_n (k9 := 0) (by decide +kernel) rfl rfl
theorem o215_29 : OKp l S b Lx xs dC dI cA 215 29 (s_getR (fun t => t == 12) 9) := ok_getR (by decide +kernel) rfl fd_RX12_37
theorem o215_30 : OKp l S b Lx xs dC dI cA 215 30 (s_iload 1) := ok_iload_n (k9 := 1) (by decide +kernel) rfl rfl
theorem o215_31 : OKp l S b Lx xs dC dI cA 215 31 (s_iload 4) := ok_iload (by decide +kernel) rfl
theorem o215_32 : OKp l S b Lx xs dC dI cA 215 32 (s_iast) := ok_iast (by decide +kernel) rfl
theorem o215_33 : OKp l S b Lx xs dC dI cA 215 33 (s_const (0)) := ok_iconst (n := 0) (by decide +kernel) (by decide) rfl
theorem o215_34 : OKp l S b Lx xs dC dI cA 215 34 (s_ret) := ok_ret (by decide +kernel) rfl
theorem a215 (hl9 : l.stackTraces = false) : sm_all (OKp l S b Lx xs dC dI cA 215) 0 sc_215 := ⟨o215_0, o215_1, o215_2, o215_3, o215_4, o215_5, o215_6, o215_7, o215_8, o215_9, o215_10, o215_11, o215_12, o215_13, o215_14, o215_15, o215_16, o215_17, o215_18, o215_19, o215_20, o215_21, o215_22, o215_23, o215_24, o215_25, o215_26, o215_27, o215_28, o215_29, o215_30, o215_31, o215_32, o215_33, o215_34, trivial⟩
theorem o216_0 : OKp l S b Lx xs dC dI cA 216 0 (s_iload 1) := ok_iload_n (k9 := 1) (by decide +kernel) rfl rfl
theorem o216_1 : OKp l S b Lx xs dC dI cA 216 1 (s_invS 140 1 1) := ok_invS rfl rfl (by decide) (hXX 140 (by decide)) w_1008 w_1009 w_61 c_140 (by decide +kernel) (by decide +kernel) rfl
theorem o216_2 : OKp l S b Lx xs dC dI cA 216 2 (s_if (fun x => x = 0) 12) := ok_if_eq (off := 21) (by decide +kernel) (by decide +kernel) rfl
theorem o216_3 : OKp l S b Lx xs dC dI cA 216 3 (s_iload 2) := ok_iload_n (k9 := 2) (by decide +kernel) rfl rfl
theorem o216_4 : OKp l S b Lx xs dC dI cA 216 4 (s_i2l) := ok_i2l (by decide +kernel) rfl
theorem o216_5 : OKp l S b Lx xs dC dI cA 216 5 (s_lconst 0) := ok_lconst (n := 0) (by decide +kernel) (by decide) rfl
theorem o216_6 : OKp l S b Lx xs dC dI cA 216 6 (s_lconst (2)) := ok_ldc2 (k := 167) (by decide +kernel) w_1121 rfl
theorem o216_7 : OKp l S b Lx xs dC dI cA 216 7 (s_invS 139 3 6) := ok_invS rfl rfl (by decide) (hXX 139 (by decide)) w_1012 w_1013 w_61 c_139 (by decide +kernel) (by decide +kernel) rfl
theorem o216_8 : OKp l S b Lx xs dC dI cA 216 8 (s_if (fun x => x = 0) 12) := ok_if_eq (off := 9) (by decide +kernel) (by decide +kernel) rfl
theorem o216_9 : OKp l S b Lx xs dC dI cA 216 9 (s_iload 3) := ok_iload_n (k9 := 3) (by decide +kernel) rfl rfl
theorem o216_10 : OKp l S b Lx xs dC dI cA 216 10 (s_const (100)) := ok_bipush (n := 100) (by decide +kernel) (by decide) rfl
theorem o216_11 : OKp l S b Lx xs dC dI cA 216 11 (s_icmp (fun x y => x ≤ y) 14) := ok_icmp_le (off := 5) (by decide +kernel) (by decide +kernel) rfl
theorem o216_12 : OKp l S b Lx xs dC dI cA 216 12 (s_const (-1)) := ok_iconst (n := -1) (by decide +kernel) (by decide) rfl
theorem o216_13 : OKp l S b Lx xs dC dI cA 216 13 (s_ret) := ok_ret (by decide +kernel) rfl
theorem o216_14 : OKp l S b Lx xs dC dI cA 216 14 (s_iload 3) := ok_iload_n (k9 := 3) (by decide +kernel) rfl rfl
theorem o216_15 : OKp l S b Lx xs dC dI cA 216 15 (s_if (fun x => 0 ≤ x) 18) := ok_if_ge (off := 6) (by decide +kernel) (by decide +kernel) rfl
theorem o216_16 : OKp l S b Lx xs dC dI cA 216 16 (s_const (-14)) := ok_bipush (n := -14) (by decide +kernel) (by decide) rfl
theorem o216_17 : OKp l S b Lx xs dC dI cA 216 17 (s_ret) := ok_ret (by decide +kernel) rfl
theorem o216_18 : OKp l S b Lx xs dC dI cA 216 18 (s_aload 0) := ok_aload_n (k9 := 0) (by decide +kernel) rfl rfl
theorem o216_19 : OKp l S b Lx xs dC dI cA 216 19 (s_getR (fun t => t == 12) 4) := ok_getR (by decide +kernel) rfl fd_RX12_22
theorem o216_20 : OKp l S b Lx xs dC dI cA 216 20 (s_iload 1) := ok_iload_n (k9 := 1) (by decide +kernel) rfl rfl
theorem o216_21 : OKp l S b Lx xs dC dI cA 216 21 (s_const (2)) := ok_iconst (n := 2) (by decide +kernel) (by decide) rfl
theorem o216_22 : OKp l S b Lx xs dC dI cA 216 22 (s_iast) := ok_iast (by decide +kernel) rfl
theorem o216_23 : OKp l S b Lx xs dC dI cA 216 23 (s_aload 0) := ok_aload_n (k9 := 0) (by decide +kernel) rfl rfl
theorem o216_24 : OKp l S b Lx xs dC dI cA 216 24 (s_getR (fun t => t == 12) 5) := ok_getR (by decide +kernel) rfl fd_RX12_25
theorem o216_25 : OKp l S b Lx xs dC dI cA 216 25 (s_iload 1) := ok_iload_n (k9 := 1) (by decide +kernel) rfl rfl
theorem o216_26 : OKp l S b Lx xs dC dI cA 216 26 (s_iload 2) := ok_iload_n (k9 := 2) (by decide +kernel) rfl rfl
theorem o216_27 : OKp l S b Lx xs dC dI cA 216 27 (s_iast) := ok_iast (by decide +kernel) rfl
theorem o216_28 : OKp l S b Lx xs dC dI cA 216 28 (s_aload 0) := ok_aload_n (k9 := 0) (by decide +kernel) rfl rfl
theorem o216_29 : OKp l S b Lx xs dC dI cA 216 29 (s_getR (fun t => t == 12) 6) := ok_getR (by decide +kernel) rfl fd_RX12_28
theorem o216_30 : OKp l S b Lx xs dC dI cA 216 30 (s_iload 1) := ok_iload_n (k9 := 1) (by decide +kernel) rfl rfl
theorem o216_31 : OKp l S b Lx xs dC dI cA 216 31 (s_iload 3) := ok_iload_n (k9 := 3) (by decide +kernel) rfl rfl
theorem o216_32 : OKp l S b Lx xs dC dI cA 216 32 (s_iast) := ok_iast (by decide +kernel) rfl
theorem o216_33 : OKp l S b Lx xs dC dI cA 216 33 (s_const (0)) := ok_iconst (n := 0) (by decide +kernel) (by decide) rfl
theorem o216_34 : OKp l S b Lx xs dC dI cA 216 34 (s_istore 4) := ok_istore (by decide +kernel) rfl
theorem o216_35 : OKp l S b Lx xs dC dI cA 216 35 (s_iload 4) := ok_iload (by decide +kernel) rfl
theorem o216_36 : OKp l S b Lx xs dC dI cA 216 36 (s_const (100)) := ok_bipush (n := 100) (by decide +kernel) (by decide) rfl
theorem o216_37 : OKp l S b Lx xs dC dI cA 216 37 (s_icmp (fun x y => y ≤ x) 49) := ok_icmp_ge (off := 22) (by decide +kernel) (by decide +kernel) rfl
theorem o216_38 : OKp l S b Lx xs dC dI cA 216 38 (s_aload 0) := ok_aload_n (k9 := 0) (by decide +kernel) rfl rfl
theorem o216_39 : OKp l S b Lx xs dC dI cA 216 39 (s_getR (fun t => t == 12) 7) := ok_getR (by decide +kernel) rfl fd_RX12_31
theorem o216_40 : OKp l S b Lx xs dC dI cA 216 40 (s_const (100)) := ok_bipush (n := 100) (by decide +kernel) (by decide) rfl
theorem o216_41 : OKp l S b Lx xs dC dI cA 216 41 (s_iload 1) := ok_iload_n (k9 := 1) (by decide +kernel) rfl rfl
theorem o216_42 : OKp l S b Lx xs dC dI cA 216 42 (s_bin g_imul) := ok_imul (by decide +kernel) rfl
theorem o216_43 : OKp l S b Lx xs dC dI cA 216 43 (s_iload 4) := ok_iload (by decide +kernel) rfl
theorem o216_44 : OKp l S b Lx xs dC dI cA 216 44 (s_bin g_iadd) := ok_iadd (by decide +kernel) rfl
theorem o216_45 : OKp l S b Lx xs dC dI cA 216 45 (s_const (0)) := ok_iconst (n := 0) (by decide +kernel) (by decide) rfl
theorem o216_46 : OKp l S b Lx xs dC dI cA 216 46 (s_iast) := ok_iast (by decide +kernel) rfl
theorem o216_47 : OKp l S b Lx xs dC dI cA 216 47 (s_iinc 4 (1)) := ok_iinc (n := 1) (by decide +kernel) (by decide) rfl
theorem o216_48 : OKp l S b Lx xs dC dI cA 216 48 (s_goto 35) := ok_goto (off := -23) (by decide +kernel) (by decide +kernel)
theorem o216_49 : OKp l S b Lx xs dC dI cA 216 49 (s_const (0)) := ok_iconst (n := 0) (by decide +kernel) (by decide) rfl
theorem o216_50 : OKp l S b Lx xs dC dI cA 216 50 (s_ret) := ok_ret (by decide +kernel) rfl
theorem a216 (hl9 : l.stackTraces = false) : sm_all (OKp l S b Lx xs dC dI cA 216) 0 sc_216 := ⟨o216_0, o216_1, o216_2, o216_3, o216_4, o216_5, o216_6, o216_7, o216_8, o216_9, o216_10, o216_11, o216_12, o216_13, o216_14, o216_15, o216_16, o216_17, o216_18, o216_19, o216_20, o216_21, o216_22, o216_23, o216_24, o216_25, o216_26, o216_27, o216_28, o216_29, o216_30, o216_31, o216_32, o216_33, o216_34, o216_35, o216_36, o216_37, o216_38, o216_39, o216_40, o216_41, o216_42, o216_43, o216_44, o216_45, o216_46, o216_47, o216_48, o216_49, o216_50, trivial⟩
theorem o217_0 : OKp l S b Lx xs dC dI cA 217 0 (s_aload 0) := ok_aload_n (k9 := 0) (by decide +kernel) rfl rfl
theorem o217_1 : OKp l S b Lx xs dC dI cA 217 1 (s_iload 1) := ok_iload_n (k9 := 1) (by decide +kernel) rfl rfl
theorem o217_2 : OKp l S b Lx xs dC dI cA 217 2 (s_const (-1)) := ok_iconst (n := -1) (by decide +kernel) (by decide) rfl
theorem o217_3 : OKp l S b Lx xs dC dI cA 217 3 (s_invV (dv1 12 168 3) [] 2) := ok_invV (dv1_ok vc_RX12_153_12 rfl (by decide) (hXX 168 (by decide))) (by decide +kernel) rfl
theorem o217_4 : OKp l S b Lx xs dC dI cA 217 4 (s_istore 4) := ok_istore (by decide +kernel) rfl
theorem o217_5 : OKp l S b Lx xs dC dI cA 217 5 (s_iload 4) := ok_iload (by decide +kernel) rfl
theorem o217_6 : OKp l S b Lx xs dC dI cA 217 6 (s_if (fun x => x = 0) 9) := ok_if_eq (off := 6) (by decide +kernel) (by decide +kernel) rfl
theorem o217_7 : OKp l S b Lx xs dC dI cA 217 7 (s_iload 4) := ok_iload (by decide +kernel) rfl
theorem o217_8 : OKp l S b Lx xs dC dI cA 217 8 (s_ret) := ok_ret (by decide +kernel) rfl
theorem o217_9 : OKp l S b Lx xs dC dI cA 217 9 (s_iload 2) := ok_iload_n (k9 := 2) (by decide +kernel) rfl rfl
theorem o217_10 : OKp l S b Lx xs dC dI cA 217 10 (s_i2l) := ok_i2l (by decide +kernel) rfl
theorem o217_11 : OKp l S b Lx xs dC dI cA 217 11 (s_lconst 0) := ok_lconst (n := 0) (by decide +kernel) (by decide) rfl
theorem o217_12 : OKp l S b Lx xs dC dI cA 217 12 (s_aload 0) := ok_aload_n (k9 := 0) (by decide +kernel) rfl rfl
theorem o217_13 : OKp l S b Lx xs dC dI cA 217 13 (s_getR (fun t => t == 12) 6) := ok_getR (by decide +kernel) rfl fd_RX12_28
theorem o217_14 : OKp l S b Lx xs dC dI cA 217 14 (s_iload 1) := ok_iload_n (k9 := 1) (by decide +kernel) rfl rfl
theorem o217_15 : OKp l S b Lx xs dC dI cA 217 15 (s_iald) := ok_iald (by decide +kernel) rfl
theorem o217_16 : OKp l S b Lx xs dC dI cA 217 16 (s_const (1)) := ok_iconst (n := 1) (by decide +kernel) (by decide) rfl
theorem o217_17 : OKp l S b Lx xs dC dI cA 217 17 (s_bin g_isub) := ok_isub (by decide +kernel) rfl
theorem o217_18 : OKp l S b Lx xs dC dI cA 217 18 (s_i2l) := ok_i2l (by decide +kernel) rfl
theorem o217_19 : OKp l S b Lx xs dC dI cA 217 19 (s_invS 139 3 6) := ok_invS rfl rfl (by decide) (hXX 139 (by decide)) w_1012 w_1013 w_61 c_139 (by decide +kernel) (by decide +kernel) rfl
theorem o217_20 : OKp l S b Lx xs dC dI cA 217 20 (s_if (fun x => x ≠ 0) 23) := ok_if_ne (off := 6) (by decide +kernel) (by decide +kernel) rfl
theorem o217_21 : OKp l S b Lx xs dC dI cA 217 21 (s_const (-13)) := ok_bipush (n := -13) (by decide +kernel) (by decide) rfl
theorem o217_22 : OKp l S b Lx xs dC dI cA 217 22 (s_ret) := ok_ret (by decide +kernel) rfl
theorem o217_23 : OKp l S b Lx xs dC dI cA 217 23 (s_aload 0) := ok_aload_n (k9 := 0) (by decide +kernel) rfl rfl
theorem o217_24 : OKp l S b Lx xs dC dI cA 217 24 (s_getR (fun t => t == 12) 7) := ok_getR (by decide +kernel) rfl fd_RX12_31
theorem o217_25 : OKp l S b Lx xs dC dI cA 217 25 (s_const (100)) := ok_bipush (n := 100) (by decide +kernel) (by decide) rfl
theorem o217_26 : OKp l S b Lx xs dC dI cA 217 26 (s_iload 1) := ok_iload_n (k9 := 1) (by decide +kernel) rfl rfl
theorem o217_27 : OKp l S b Lx xs dC dI cA 217 27 (s_bin g_imul) := ok_imul (by decide +kernel) rfl
theorem o217_28 : OKp l S b Lx xs dC dI cA 217 28 (s_iload 2) := ok_iload_n (k9 := 2) (by decide +kernel) rfl rfl
theorem o217_29 : OKp l S b Lx xs dC dI cA 217 29 (s_bin g_iadd) := ok_iadd (by decide +kernel) rfl
theorem o217_30 : OKp l S b Lx xs dC dI cA 217 30 (s_aload 0) := ok_aload_n (k9 := 0) (by decide +kernel) rfl rfl
theorem o217_31 : OKp l S b Lx xs dC dI cA 217 31 (s_getR (fun t => t == 12) 5) := ok_getR (by decide +kernel) rfl fd_RX12_25
theorem o217_32 : OKp l S b Lx xs dC dI cA 217 32 (s_iload 1) := ok_iload_n (k9 := 1) (by decide +kernel) rfl rfl
theorem o217_33 : OKp l S b Lx xs dC dI cA 217 33 (s_iald) := ok_iald (by decide +kernel) rfl
theorem o217_34 : OKp l S b Lx xs dC dI cA 217 34 (s_if (fun x => x ≠ 0) 38) := ok_if_ne (off := 8) (by decide +kernel) (by decide +kernel) rfl
theorem o217_35 : OKp l S b Lx xs dC dI cA 217 35 (s_iload 3) := ok_iload_n (k9 := 3) (by decide +kernel) rfl rfl
theorem o217_36 : OKp l S b Lx xs dC dI cA 217 36 (s_un g_i2b) := ok_i2b (by decide +kernel) rfl
theorem o217_37 : OKp l S b Lx xs dC dI cA 217 37 (s_goto 48) := ok_goto (off := 19) (by decide +kernel) (by decide +kernel)
theorem o217_38 : OKp l S b Lx xs dC dI cA 217 38 (s_aload 0) := ok_aload_n (k9 := 0) (by decide +kernel) rfl rfl
theorem o217_39 : OKp l S b Lx xs dC dI cA 217 39 (s_getR (fun t => t == 12) 5) := ok_getR (by decide +kernel) rfl fd_RX12_25
theorem o217_40 : OKp l S b Lx xs dC dI cA 217 40 (s_iload 1) := ok_iload_n (k9 := 1) (by decide +kernel) rfl rfl
theorem o217_41 : OKp l S b Lx xs dC dI cA 217 41 (s_iald) := ok_iald (by decide +kernel) rfl
theorem o217_42 : OKp l S b Lx xs dC dI cA 217 42 (s_const (1)) := ok_iconst (n := 1) (by decide +kernel) (by decide) rfl
theorem o217_43 : OKp l S b Lx xs dC dI cA 217 43 (s_icmp (fun x y => x ≠ y) 47) := ok_icmp_ne (off := 8) (by decide +kernel) (by decide +kernel) rfl
theorem o217_44 : OKp l S b Lx xs dC dI cA 217 44 (s_iload 3) := ok_iload_n (k9 := 3) (by decide +kernel) rfl rfl
theorem o217_45 : OKp l S b Lx xs dC dI cA 217 45 (s_un g_i2s) := ok_i2s (by decide +kernel) rfl
theorem o217_46 : OKp l S b Lx xs dC dI cA 217 46 (s_goto 48) := ok_goto (off := 4) (by decide +kernel) (by decide +kernel)
theorem o217_47 : OKp l S b Lx xs dC dI cA 217 47 (s_iload 3) := ok_iload_n (k9 := 3) (by decide +kernel) rfl rfl
theorem o217_48 : OKp l S b Lx xs dC dI cA 217 48 (s_iast) := ok_iast (by decide +kernel) rfl
theorem o217_49 : OKp l S b Lx xs dC dI cA 217 49 (s_const (0)) := ok_iconst (n := 0) (by decide +kernel) (by decide) rfl
theorem o217_50 : OKp l S b Lx xs dC dI cA 217 50 (s_ret) := ok_ret (by decide +kernel) rfl
theorem a217 (hl9 : l.stackTraces = false) : sm_all (OKp l S b Lx xs dC dI cA 217) 0 sc_217 := ⟨o217_0, o217_1, o217_2, o217_3, o217_4, o217_5, o217_6, o217_7, o217_8, o217_9, o217_10, o217_11, o217_12, o217_13, o217_14, o217_15, o217_16, o217_17, o217_18, o217_19, o217_20, o217_21, o217_22, o217_23, o217_24, o217_25, o217_26, o217_27, o217_28, o217_29, o217_30, o217_31, o217_32, o217_33, o217_34, o217_35, o217_36, o217_37, o217_38, o217_39, o217_40, o217_41, o217_42, o217_43, o217_44, o217_45, o217_46, o217_47, o217_48, o217_49, o217_50, trivial⟩
theorem o218_0 : OKp l S b Lx xs dC dI cA 218 0 (s_aload 0) := ok_aload_n (k9 := 0) (by decide +kernel) rfl rfl
theorem o218_1 : OKp l S b Lx xs dC dI cA 218 1 (s_iload 1) := ok_iload_n (k9 := 1) (by decide +kernel) rfl rfl
theorem o218_2 : OKp l S b Lx xs dC dI cA 218 2 (s_invS 140 1 1) := ok_invS rfl rfl (by decide) (hXX 140 (by decide)) w_1008 w_1009 w_61 c_140 (by decide +kernel) (by decide +kernel) rfl
theorem o218_3 : OKp l S b Lx xs dC dI cA 218 3 (s_if (fun x => x ≠ 0) 6) := ok_if_ne (off := 7) (by decide +kernel) (by decide +kernel) rfl
theorem o218_4 : OKp l S b Lx xs dC dI cA 218 4 (s_const (1)) := ok_iconst (n := 1) (by decide +kernel) (by decide) rfl
theorem o218_5 : OKp l S b Lx xs dC dI cA 218 5 (s_goto 27) := ok_goto (off := 36) (by decide +kernel) (by decide +kernel)
theorem o218_6 : OKp l S b Lx xs dC dI cA 218 6 (s_aload 0) := ok_aload_n (k9 := 0) (by decide +kernel) rfl rfl
theorem o218_7 : OKp l S b Lx xs dC dI cA 218 7 (s_getR (fun t => t == 12) 4) := ok_getR (by decide +kernel) rfl fd_RX12_22
theorem o218_8 : OKp l S b Lx xs dC dI cA 218 8 (s_iload 1) := ok_iload_n (k9 := 1) (by decide +kernel) rfl rfl
theorem o218_9 : OKp l S b Lx xs dC dI cA 218 9 (s_iald) := ok_iald (by decide +kernel) rfl
theorem o218_10 : OKp l S b Lx xs dC dI cA 218 10 (s_const (2)) := ok_iconst (n := 2) (by decide +kernel) (by decide) rfl
theorem o218_11 : OKp l S b Lx xs dC dI cA 218 11 (s_icmp (fun x y => x ≠ y) 24) := ok_icmp_ne (off := 21) (by decide +kernel) (by decide +kernel) rfl
theorem o218_12 : OKp l S b Lx xs dC dI cA 218 12 (s_iload 2) := ok_iload_n (k9 := 2) (by decide +kernel) rfl rfl
theorem o218_13 : OKp l S b Lx xs dC dI cA 218 13 (s_i2l) := ok_i2l (by decide +kernel) rfl
theorem o218_14 : OKp l S b Lx xs dC dI cA 218 14 (s_lconst 0) := ok_lconst (n := 0) (by decide +kernel) (by decide) rfl
theorem o218_15 : OKp l S b Lx xs dC dI cA 218 15 (s_aload 0) := ok_aload_n (k9 := 0) (by decide +kernel) rfl rfl
theorem o218_16 : OKp l S b Lx xs dC dI cA 218 16 (s_getR (fun t => t == 12) 6) := ok_getR (by decide +kernel) rfl fd_RX12_28
theorem o218_17 : OKp l S b Lx xs dC dI cA 218 17 (s_iload 1) := ok_iload_n (k9 := 1) (by decide +kernel) rfl rfl
theorem o218_18 : OKp l S b Lx xs dC dI cA 218 18 (s_iald) := ok_iald (by decide +kernel) rfl
theorem o218_19 : OKp l S b Lx xs dC dI cA 218 19 (s_const (1)) := ok_iconst (n := 1) (by decide +kernel) (by decide) rfl
theorem o218_20 : OKp l S b Lx xs dC dI cA 218 20 (s_bin g_isub) := ok_isub (by decide +kernel) rfl
theorem o218_21 : OKp l S b Lx xs dC dI cA 218 21 (s_i2l) := ok_i2l (by decide +kernel) rfl
theorem o218_22 : OKp l S b Lx xs dC dI cA 218 22 (s_invS 139 3 6) := ok_invS rfl rfl (by decide) (hXX 139 (by decide)) w_1012 w_1013 w_61 c_139 (by decide +kernel) (by decide +kernel) rfl
theorem o218_23 : OKp l S b Lx xs dC dI cA 218 23 (s_if (fun x => x ≠ 0) 26) := ok_if_ne (off := 7) (by decide +kernel) (by decide +kernel) rfl
theorem o218_24 : OKp l S b Lx xs dC dI cA 218 24 (s_const (2)) := ok_iconst (n := 2) (by decide +kernel) (by decide) rfl
theorem o218_25 : OKp l S b Lx xs dC dI cA 218 25 (s_goto 27) := ok_goto (off := 4) (by decide +kernel) (by decide +kernel)
theorem o218_26 : OKp l S b Lx xs dC dI cA 218 26 (s_const (0)) := ok_iconst (n := 0) (by decide +kernel) (by decide) rfl
theorem o218_27 : OKp l S b Lx xs dC dI cA 218 27 (s_putI 12 11) := ok_putI (by decide +kernel) rfl fp_RX12_49 rfl
theorem o218_28 : OKp l S b Lx xs dC dI cA 218 28 (s_aload 0) := ok_aload_n (k9 := 0) (by decide +kernel) rfl rfl
theorem o218_29 : OKp l S b Lx xs dC dI cA 218 29 (s_getI (fun t => t == 12) 11) := ok_getI (by decide +kernel) rfl fd_RX12_49
theorem o218_30 : OKp l S b Lx xs dC dI cA 218 30 (s_if (fun x => x ≠ 0) 41) := ok_if_ne (off := 18) (by decide +kernel) (by decide +kernel) rfl
theorem o218_31 : OKp l S b Lx xs dC dI cA 218 31 (s_aload 0) := ok_aload_n (k9 := 0) (by decide +kernel) rfl rfl
theorem o218_32 : OKp l S b Lx xs dC dI cA 218 32 (s_getR (fun t => t == 12) 7) := ok_getR (by decide +kernel) rfl fd_RX12_31
theorem o218_33 : OKp l S b Lx xs dC dI cA 218 33 (s_const (100)) := ok_bipush (n := 100) (by decide +kernel) (by decide) rfl
theorem o218_34 : OKp l S b Lx xs dC dI cA 218 34 (s_iload 1) := ok_iload_n (k9 := 1) (by decide +kernel) rfl rfl
theorem o218_35 : OKp l S b Lx xs dC dI cA 218 35 (s_bin g_imul) := ok_imul (by decide +kernel) rfl
theorem o218_36 : OKp l S b Lx xs dC dI cA 218 36 (s_iload 2) := ok_iload_n (k9 := 2) (by decide +kernel) rfl rfl
theorem o218_37 : OKp l S b Lx xs dC dI cA 218 37 (s_bin g_iadd) := ok_iadd (by decide +kernel) rfl
theorem o218_38 : OKp l S b Lx xs dC dI cA 218 38 (s_iald) := ok_iald (by decide +kernel) rfl
theorem o218_39 : OKp l S b Lx xs dC dI cA 218 39 (s_i2l) := ok_i2l (by decide +kernel) rfl
theorem o218_40 : OKp l S b Lx xs dC dI cA 218 40 (s_goto 42) := ok_goto (off := 4) (by decide +kernel) (by decide +kernel)
theorem o218_41 : OKp l S b Lx xs dC dI cA 218 41 (s_lconst 0) := ok_lconst (n := 0) (by decide +kernel) (by decide) rfl
theorem o218_42 : OKp l S b Lx xs dC dI cA 218 42 (s_lret) := ok_lret (by decide +kernel) rfl
theorem a218 (hl9 : l.stackTraces = false) : sm_all (OKp l S b Lx xs dC dI cA 218) 0 sc_218 := ⟨o218_0, o218_1, o218_2, o218_3, o218_4, o218_5, o218_6, o218_7, o218_8, o218_9, o218_10, o218_11, o218_12, o218_13, o218_14, o218_15, o218_16, o218_17, o218_18, o218_19, o218_20, o218_21, o218_22, o218_23, o218_24, o218_25, o218_26, o218_27, o218_28, o218_29, o218_30, o218_31, o218_32, o218_33, o218_34, o218_35, o218_36, o218_37, o218_38, o218_39, o218_40, o218_41, o218_42, trivial⟩
theorem o219_0 : OKp l S b Lx xs dC dI cA 219 0 (s_iload 1) := ok_iload_n (k9 := 1) (by decide +kernel) rfl rfl
theorem o219_1 : OKp l S b Lx xs dC dI cA 219 1 (s_invS 140 1 1) := ok_invS rfl rfl (by decide) (hXX 140 (by decide)) w_1008 w_1009 w_61 c_140 (by decide +kernel) (by decide +kernel) rfl
theorem o219_2 : OKp l S b Lx xs dC dI cA 219 2 (s_if (fun x => x = 0) 6) := ok_if_eq (off := 10) (by decide +kernel) (by decide +kernel) rfl
theorem o219_3 : OKp l S b Lx xs dC dI cA 219 3 (s_iload 3) := ok_iload_n (k9 := 3) (by decide +kernel) rfl rfl
theorem o219_4 : OKp l S b Lx xs dC dI cA 219 4 (s_invS 140 1 1) := ok_invS rfl rfl (by decide) (hXX 140 (by decide)) w_1008 w_1009 w_61 c_140 (by decide +kernel) (by decide +kernel) rfl
theorem o219_5 : OKp l S b Lx xs dC dI cA 219 5 (s_if (fun x => x ≠ 0) 8) := ok_if_ne (off := 5) (by decide +kernel) (by decide +kernel) rfl
theorem o219_6 : OKp l S b Lx xs dC dI cA 219 6 (s_const (-1)) := ok_iconst (n := -1) (by decide +kernel) (by decide) rfl
theorem o219_7 : OKp l S b Lx xs dC dI cA 219 7 (s_ret) := ok_ret (by decide +kernel) rfl
theorem o219_8 : OKp l S b Lx xs dC dI cA 219 8 (s_aload 0) := ok_aload_n (k9 := 0) (by decide +kernel) rfl rfl
theorem o219_9 : OKp l S b Lx xs dC dI cA 219 9 (s_getR (fun t => t == 12) 4) := ok_getR (by decide +kernel) rfl fd_RX12_22
theorem o219_10 : OKp l S b Lx xs dC dI cA 219 10 (s_iload 1) := ok_iload_n (k9 := 1) (by decide +kernel) rfl rfl
theorem o219_11 : OKp l S b Lx xs dC dI cA 219 11 (s_iald) := ok_iald (by decide +kernel) rfl
theorem o219_12 : OKp l S b Lx xs dC dI cA 219 12 (s_if (fun x => x = 0) 18) := ok_if_eq (off := 12) (by decide +kernel) (by decide +kernel) rfl
theorem o219_13 : OKp l S b Lx xs dC dI cA 219 13 (s_aload 0) := ok_aload_n (k9 := 0) (by decide +kernel) rfl rfl
theorem o219_14 : OKp l S b Lx xs dC dI cA 219 14 (s_getR (fun t => t == 12) 4) := ok_getR (by decide +kernel) rfl fd_RX12_22
theorem o219_15 : OKp l S b Lx xs dC dI cA 219 15 (s_iload 3) := ok_iload_n (k9 := 3) (by decide +kernel) rfl rfl
theorem o219_16 : OKp l S b Lx xs dC dI cA 219 16 (s_iald) := ok_iald (by decide +kernel) rfl
theorem o219_17 : OKp l S b Lx xs dC dI cA 219 17 (s_if (fun x => x ≠ 0) 20) := ok_if_ne (off := 6) (by decide +kernel) (by decide +kernel) rfl
theorem o219_18 : OKp l S b Lx xs dC dI cA 219 18 (s_const (-11)) := ok_bipush (n := -11) (by decide +kernel) (by decide) rfl
theorem o219_19 : OKp l S b Lx xs dC dI cA 219 19 (s_ret) := ok_ret (by decide +kernel) rfl
theorem o219_20 : OKp l S b Lx xs dC dI cA 219 20 (s_aload 0) := ok_aload_n (k9 := 0) (by decide +kernel) rfl rfl
theorem o219_21 : OKp l S b Lx xs dC dI cA 219 21 (s_getR (fun t => t == 12) 4) := ok_getR (by decide +kernel) rfl fd_RX12_22
theorem o219_22 : OKp l S b Lx xs dC dI cA 219 22 (s_iload 1) := ok_iload_n (k9 := 1) (by decide +kernel) rfl rfl
theorem o219_23 : OKp l S b Lx xs dC dI cA 219 23 (s_iald) := ok_iald (by decide +kernel) rfl
theorem o219_24 : OKp l S b Lx xs dC dI cA 219 24 (s_const (2)) := ok_iconst (n := 2) (by decide +kernel) (by decide) rfl
theorem o219_25 : OKp l S b Lx xs dC dI cA 219 25 (s_icmp (fun x y => x ≠ y) 41) := ok_icmp_ne (off := 28) (by decide +kernel) (by decide +kernel) rfl
theorem o219_26 : OKp l S b Lx xs dC dI cA 219 26 (s_aload 0) := ok_aload_n (k9 := 0) (by decide +kernel) rfl rfl
theorem o219_27 : OKp l S b Lx xs dC dI cA 219 27 (s_getR (fun t => t == 12) 4) := ok_getR (by decide +kernel) rfl fd_RX12_22
theorem o219_28 : OKp l S b Lx xs dC dI cA 219 28 (s_iload 3) := ok_iload_n (k9 := 3) (by decide +kernel) rfl rfl
theorem o219_29 : OKp l S b Lx xs dC dI cA 219 29 (s_iald) := ok_iald (by decide +kernel) rfl
theorem o219_30 : OKp l S b Lx xs dC dI cA 219 30 (s_const (2)) := ok_iconst (n := 2) (by decide +kernel) (by decide) rfl
theorem o219_31 : OKp l S b Lx xs dC dI cA 219 31 (s_icmp (fun x y => x ≠ y) 41) := ok_icmp_ne (off := 18) (by decide +kernel) (by decide +kernel) rfl
theorem o219_32 : OKp l S b Lx xs dC dI cA 219 32 (s_aload 0) := ok_aload_n (k9 := 0) (by decide +kernel) rfl rfl
theorem o219_33 : OKp l S b Lx xs dC dI cA 219 33 (s_getR (fun t => t == 12) 5) := ok_getR (by decide +kernel) rfl fd_RX12_25
theorem o219_34 : OKp l S b Lx xs dC dI cA 219 34 (s_iload 1) := ok_iload_n (k9 := 1) (by decide +kernel) rfl rfl
theorem o219_35 : OKp l S b Lx xs dC dI cA 219 35 (s_iald) := ok_iald (by decide +kernel) rfl
theorem o219_36 : OKp l S b Lx xs dC dI cA 219 36 (s_aload 0) := ok_aload_n (k9 := 0) (by decide +kernel) rfl rfl
theorem o219_37 : OKp l S b Lx xs dC dI cA 219 37 (s_getR (fun t => t == 12) 5) := ok_getR (by decide +kernel) rfl fd_RX12_25
theorem o219_38 : OKp l S b Lx xs dC dI cA 219 38 (s_iload 3) := ok_iload_n (k9 := 3) (by decide +kernel) rfl rfl
theorem o219_39 : OKp l S b Lx xs dC dI cA 219 39 (s_iald) := ok_iald (by decide +kernel) rfl
theorem o219_40 : OKp l S b Lx xs dC dI cA 219 40 (s_icmp (fun x y => x = y) 43) := ok_icmp_eq (off := 6) (by decide +kernel) (by decide +kernel) rfl
theorem o219_41 : OKp l S b Lx xs dC dI cA 219 41 (s_const (-12)) := ok_bipush (n := -12) (by decide +kernel) (by decide) rfl
theorem o219_42 : OKp l S b Lx xs dC dI cA 219 42 (s_ret) := ok_ret (by decide +kernel) rfl
theorem o219_43 : OKp l S b Lx xs dC dI cA 219 43 (s_iload 5) := ok_iload (by decide +kernel) rfl
theorem o219_44 : OKp l S b Lx xs dC dI cA 219 44 (s_if (fun x => x < 0) 65) := ok_if_lt (off := 39) (by decide +kernel) (by decide +kernel) rfl
theorem o219_45 : OKp l S b Lx xs dC dI cA 219 45 (s_iload 2) := ok_iload_n (k9 := 2) (by decide +kernel) rfl rfl
theorem o219_46 : OKp l S b Lx xs dC dI cA 219 46 (s_if (fun x => x < 0) 65) := ok_if_lt (off := 35) (by decide +kernel) (by decide +kernel) rfl
theorem o219_47 : OKp l S b Lx xs dC dI cA 219 47 (s_iload 4) := ok_iload (by decide +kernel) rfl
theorem o219_48 : OKp l S b Lx xs dC dI cA 219 48 (s_if (fun x => x < 0) 65) := ok_if_lt (off := 30) (by decide +kernel) (by decide +kernel) rfl
theorem o219_49 : OKp l S b Lx xs dC dI cA 219 49 (s_iload 5) := ok_iload (by decide +kernel) rfl
theorem o219_50 : OKp l S b Lx xs dC dI cA 219 50 (s_aload 0) := ok_aload_n (k9 := 0) (by decide +kernel) rfl rfl
theorem o219_51 : OKp l S b Lx xs dC dI cA 219 51 (s_getR (fun t => t == 12) 6) := ok_getR (by decide +kernel) rfl fd_RX12_28
theorem o219_52 : OKp l S b Lx xs dC dI cA 219 52 (s_iload 1) := ok_iload_n (k9 := 1) (by decide +kernel) rfl rfl
theorem o219_53 : OKp l S b Lx xs dC dI cA 219 53 (s_iald) := ok_iald (by decide +kernel) rfl
theorem o219_54 : OKp l S b Lx xs dC dI cA 219 54 (s_iload 2) := ok_iload_n (k9 := 2) (by decide +kernel) rfl rfl
theorem o219_55 : OKp l S b Lx xs dC dI cA 219 55 (s_bin g_isub) := ok_isub (by decide +kernel) rfl
theorem o219_56 : OKp l S b Lx xs dC dI cA 219 56 (s_icmp (fun x y => y < x) 65) := ok_icmp_gt (off := 17) (by decide +kernel) (by decide +kernel) rfl
theorem o219_57 : OKp l S b Lx xs dC dI cA 219 57 (s_iload 5) := ok_iload (by decide +kernel) rfl
theorem o219_58 : OKp l S b Lx xs dC dI cA 219 58 (s_aload 0) := ok_aload_n (k9 := 0) (by decide +kernel) rfl rfl
theorem o219_59 : OKp l S b Lx xs dC dI cA 219 59 (s_getR (fun t => t == 12) 6) := ok_getR (by decide +kernel) rfl fd_RX12_28
theorem o219_60 : OKp l S b Lx xs dC dI cA 219 60 (s_iload 3) := ok_iload_n (k9 := 3) (by decide +kernel) rfl rfl
theorem o219_61 : OKp l S b Lx xs dC dI cA 219 61 (s_iald) := ok_iald (by decide +kernel) rfl
theorem o219_62 : OKp l S b Lx xs dC dI cA 219 62 (s_iload 4) := ok_iload (by decide +kernel) rfl
theorem o219_63 : OKp l S b Lx xs dC dI cA 219 63 (s_bin g_isub) := ok_isub (by decide +kernel) rfl
theorem o219_64 : OKp l S b Lx xs dC dI cA 219 64 (s_icmp (fun x y => x ≤ y) 67) := ok_icmp_le (off := 6) (by decide +kernel) (by decide +kernel) rfl
theorem o219_65 : OKp l S b Lx xs dC dI cA 219 65 (s_const (-13)) := ok_bipush (n := -13) (by decide +kernel) (by decide) rfl
theorem o219_66 : OKp l S b Lx xs dC dI cA 219 66 (s_ret) := ok_ret (by decide +kernel) rfl
theorem o219_67 : OKp l S b Lx xs dC dI cA 219 67 (s_const (0)) := ok_iconst (n := 0) (by decide +kernel) (by decide) rfl
theorem o219_68 : OKp l S b Lx xs dC dI cA 219 68 (s_istore 6) := ok_istore (by decide +kernel) rfl
theorem o219_69 : OKp l S b Lx xs dC dI cA 219 69 (s_iload 6) := ok_iload (by decide +kernel) rfl
theorem o219_70 : OKp l S b Lx xs dC dI cA 219 70 (s_iload 5) := ok_iload (by decide +kernel) rfl
theorem o219_71 : OKp l S b Lx xs dC dI cA 219 71 (s_icmp (fun x y => y ≤ x) 105) := ok_icmp_ge (off := 58) (by decide +kernel) (by decide +kernel) rfl
theorem o219_72 : OKp l S b Lx xs dC dI cA 219 72 (s_iload 2) := ok_iload_n (k9 := 2) (by decide +kernel) rfl rfl
theorem o219_73 : OKp l S b Lx xs dC dI cA 219 73 (s_iload 4) := ok_iload (by decide +kernel) rfl
theorem o219_74 : OKp l S b Lx xs dC dI cA 219 74 (s_icmp (fun x y => x ≤ y) 77) := ok_icmp_le (off := 8) (by decide +kernel) (by decide +kernel) rfl
theorem o219_75 : OKp l S b Lx xs dC dI cA 219 75 (s_iload 6) := ok_iload (by decide +kernel) rfl
theorem o219_76 : OKp l S b Lx xs dC dI cA 219 76 (s_goto 82) := ok_goto (off := 10) (by decide +kernel) (by decide +kernel)
theorem o219_77 : OKp l S b Lx xs dC dI cA 219 77 (s_iload 5) := ok_iload (by decide +kernel) rfl
theorem o219_78 : OKp l S b Lx xs dC dI cA 219 78 (s_const (1)) := ok_iconst (n := 1) (by decide +kernel) (by decide) rfl
theorem o219_79 : OKp l S b Lx xs dC dI cA 219 79 (s_bin g_isub) := ok_isub (by decide +kernel) rfl
theorem o219_80 : OKp l S b Lx xs dC dI cA 219 80 (s_iload 6) := ok_iload (by decide +kernel) rfl
theorem o219_81 : OKp l S b Lx xs dC dI cA 219 81 (s_bin g_isub) := ok_isub (by decide +kernel) rfl
theorem o219_82 : OKp l S b Lx xs dC dI cA 219 82 (s_istore 7) := ok_istore (by decide +kernel) rfl
theorem o219_83 : OKp l S b Lx xs dC dI cA 219 83 (s_aload 0) := ok_aload_n (k9 := 0) (by decide +kernel) rfl rfl
theorem o219_84 : OKp l S b Lx xs dC dI cA 219 84 (s_getR (fun t => t == 12) 7) := ok_getR (by decide +kernel) rfl fd_RX12_31
theorem o219_85 : OKp l S b Lx xs dC dI cA 219 85 (s_const (100)) := ok_bipush (n := 100) (by decide +kernel) (by decide) rfl
theorem o219_86 : OKp l S b Lx xs dC dI cA 219 86 (s_iload 3) := ok_iload_n (k9 := 3) (by decide +kernel) rfl rfl
theorem o219_87 : OKp l S b Lx xs dC dI cA 219 87 (s_bin g_imul) := ok_imul (by decide +kernel) rfl
theorem o219_88 : OKp l S b Lx xs dC dI cA 219 88 (s_iload 4) := ok_iload (by decide +kernel) rfl
theorem o219_89 : OKp l S b Lx xs dC dI cA 219 89 (s_bin g_iadd) := ok_iadd (by decide +kernel) rfl
theorem o219_90 : OKp l S b Lx xs dC dI cA 219 90 (s_iload 7) := ok_iload (by decide +kernel) rfl
theorem o219_91 : OKp l S b Lx xs dC dI cA 219 91 (s_bin g_iadd) := ok_iadd (by decide +kernel) rfl
theorem o219_92 : OKp l S b Lx xs dC dI cA 219 92 (s_aload 0) := ok_aload_n (k9 := 0) (by decide +kernel) rfl rfl
theorem o219_93 : OKp l S b Lx xs dC dI cA 219 93 (s_getR (fun t => t == 12) 7) := ok_getR (by decide +kernel) rfl fd_RX12_31
theorem o219_94 : OKp l S b Lx xs dC dI cA 219 94 (s_const (100)) := ok_bipush (n := 100) (by decide +kernel) (by decide) rfl
theorem o219_95 : OKp l S b Lx xs dC dI cA 219 95 (s_iload 1) := ok_iload_n (k9 := 1) (by decide +kernel) rfl rfl
theorem o219_96 : OKp l S b Lx xs dC dI cA 219 96 (s_bin g_imul) := ok_imul (by decide +kernel) rfl
theorem o219_97 : OKp l S b Lx xs dC dI cA 219 97 (s_iload 2) := ok_iload_n (k9 := 2) (by decide +kernel) rfl rfl
theorem o219_98 : OKp l S b Lx xs dC dI cA 219 98 (s_bin g_iadd) := ok_iadd (by decide +kernel) rfl
theorem o219_99 : OKp l S b Lx xs dC dI cA 219 99 (s_iload 7) := ok_iload (by decide +kernel) rfl
theorem o219_100 : OKp l S b Lx xs dC dI cA 219 100 (s_bin g_iadd) := ok_iadd (by decide +kernel) rfl
theorem o219_101 : OKp l S b Lx xs dC dI cA 219 101 (s_iald) := ok_iald (by decide +kernel) rfl
theorem o219_102 : OKp l S b Lx xs dC dI cA 219 102 (s_iast) := ok_iast (by decide +kernel) rfl
theorem o219_103 : OKp l S b Lx xs dC dI cA 219 103 (s_iinc 6 (1)) := ok_iinc (n := 1) (by decide +kernel) (by decide) rfl
theorem o219_104 : OKp l S b Lx xs dC dI cA 219 104 (s_goto 69) := ok_goto (off := -59) (by decide +kernel) (by decide +kernel)
theorem o219_105 : OKp l S b Lx xs dC dI cA 219 105 (s_iload 5) := ok_iload (by decide +kernel) rfl
theorem o219_106 : OKp l S b Lx xs dC dI cA 219 106 (s_ret) := ok_ret (by decide +kernel) rfl
theorem a219_0 (hl9 : l.stackTraces = false) : sm_all (OKp l S b Lx xs dC dI cA 219) 0 sc_219_0 := ⟨o219_0, o219_1, o219_2, o219_3, o219_4, o219_5, o219_6, o219_7, o219_8, o219_9, o219_10, o219_11, o219_12, o219_13, o219_14, o219_15, o219_16, o219_17, o219_18, o219_19, o219_20, o219_21, o219_22, o219_23, o219_24, o219_25, o219_26, o219_27, o219_28, o219_29, o219_30, o219_31, o219_32, o219_33, o219_34, o219_35, o219_36, o219_37, o219_38, o219_39, o219_40, o219_41, o219_42, o219_43, o219_44, o219_45, o219_46, o219_47, o219_48, o219_49, o219_50, o219_51, o219_52, o219_53, o219_54, o219_55, o219_56, o219_57, o219_58, o219_59, trivial⟩
theorem a219_1 (hl9 : l.stackTraces = false) : sm_all (OKp l S b Lx xs dC dI cA 219) 60 sc_219_1 := ⟨o219_60, o219_61, o219_62, o219_63, o219_64, o219_65, o219_66, o219_67, o219_68, o219_69, o219_70, o219_71, o219_72, o219_73, o219_74, o219_75, o219_76, o219_77, o219_78, o219_79, o219_80, o219_81, o219_82, o219_83, o219_84, o219_85, o219_86, o219_87, o219_88, o219_89, o219_90, o219_91, o219_92, o219_93, o219_94, o219_95, o219_96, o219_97, o219_98, o219_99, o219_100, o219_101, o219_102, o219_103, o219_104, o219_105, o219_106, trivial⟩
theorem a219 (hl9 : l.stackTraces = false) : sm_all (OKp l S b Lx xs dC dI cA 219) 0 sc_219 := sm_all_app _ _ _ (a219_0 hl9) (a219_1 hl9)
theorem o220_0 : OKp l S b Lx xs dC dI cA 220 0 (s_iload 1) := ok_iload_n (k9 := 1) (by decide +kernel) rfl rfl
theorem o220_1 : OKp l S b Lx xs dC dI cA 220 1 (s_invS 140 1 1) := ok_invS rfl rfl (by decide) (hXX 140 (by decide)) w_1008 w_1009 w_61 c_140 (by decide +kernel) (by decide +kernel) rfl
theorem o220_2 : OKp l S b Lx xs dC dI cA 220 2 (s_if (fun x => x ≠ 0) 5) := ok_if_ne (off := 7) (by decide +kernel) (by decide +kernel) rfl
theorem o220_3 : OKp l S b Lx xs dC dI cA 220 3 (s_const (-1)) := ok_iconst (n := -1) (by decide +kernel) (by decide) rfl
theorem o220_4 : OKp l S b Lx xs dC dI cA 220 4 (s_goto 21) := ok_goto (off := 33) (by decide +kernel) (by decide +kernel)
theorem o220_5 : OKp l S b Lx xs dC dI cA 220 5 (s_aload 0) := ok_aload_n (k9 := 0) (by decide +kernel) rfl rfl
theorem o220_6 : OKp l S b Lx xs dC dI cA 220 6 (s_getR (fun t => t == 12) 4) := ok_getR (by decide +kernel) rfl fd_RX12_22
theorem o220_7 : OKp l S b Lx xs dC dI cA 220 7 (s_iload 1) := ok_iload_n (k9 := 1) (by decide +kernel) rfl rfl
theorem o220_8 : OKp l S b Lx xs dC dI cA 220 8 (s_iald) := ok_iald (by decide +kernel) rfl
theorem o220_9 : OKp l S b Lx xs dC dI cA 220 9 (s_if (fun x => x ≠ 0) 12) := ok_if_ne (off := 8) (by decide +kernel) (by decide +kernel) rfl
theorem o220_10 : OKp l S b Lx xs dC dI cA 220 10 (s_const (-11)) := ok_bipush (n := -11) (by decide +kernel) (by decide) rfl
theorem o220_11 : OKp l S b Lx xs dC dI cA 220 11 (s_goto 21) := ok_goto (off := 19) (by decide +kernel) (by decide +kernel)
theorem o220_12 : OKp l S b Lx xs dC dI cA 220 12 (s_aload 0) := ok_aload_n (k9 := 0) (by decide +kernel) rfl rfl
theorem o220_13 : OKp l S b Lx xs dC dI cA 220 13 (s_getR (fun t => t == 12) 4) := ok_getR (by decide +kernel) rfl fd_RX12_22
theorem o220_14 : OKp l S b Lx xs dC dI cA 220 14 (s_iload 1) := ok_iload_n (k9 := 1) (by decide +kernel) rfl rfl
theorem o220_15 : OKp l S b Lx xs dC dI cA 220 15 (s_iald) := ok_iald (by decide +kernel) rfl
theorem o220_16 : OKp l S b Lx xs dC dI cA 220 16 (s_const (1)) := ok_iconst (n := 1) (by decide +kernel) (by decide) rfl
theorem o220_17 : OKp l S b Lx xs dC dI cA 220 17 (s_icmp (fun x y => x ≠ y) 20) := ok_icmp_ne (off := 7) (by decide +kernel) (by decide +kernel) rfl
theorem o220_18 : OKp l S b Lx xs dC dI cA 220 18 (s_const (0)) := ok_iconst (n := 0) (by decide +kernel) (by decide) rfl
theorem o220_19 : OKp l S b Lx xs dC dI cA 220 19 (s_goto 21) := ok_goto (off := 5) (by decide +kernel) (by decide +kernel)
theorem o220_20 : OKp l S b Lx xs dC dI cA 220 20 (s_const (-12)) := ok_bipush (n := -12) (by decide +kernel) (by decide) rfl
theorem o220_21 : OKp l S b Lx xs dC dI cA 220 21 (s_ret) := ok_ret (by decide +kernel) rfl
theorem a220 (hl9 : l.stackTraces = false) : sm_all (OKp l S b Lx xs dC dI cA 220) 0 sc_220 := ⟨o220_0, o220_1, o220_2, o220_3, o220_4, o220_5, o220_6, o220_7, o220_8, o220_9, o220_10, o220_11, o220_12, o220_13, o220_14, o220_15, o220_16, o220_17, o220_18, o220_19, o220_20, o220_21, trivial⟩
theorem o221_0 : OKp l S b Lx xs dC dI cA 221 0 (s_aload 0) := ok_aload_n (k9 := 0) (by decide +kernel) rfl rfl
theorem o221_1 : OKp l S b Lx xs dC dI cA 221 1 (s_iload 1) := ok_iload_n (k9 := 1) (by decide +kernel) rfl rfl
theorem o221_2 : OKp l S b Lx xs dC dI cA 221 2 (s_invV (dv1 12 220 2) [] 1) := ok_invV (dv1_ok vc_RX12_251_12 rfl (by decide) (hXX 220 (by decide))) (by decide +kernel) rfl
theorem o221_3 : OKp l S b Lx xs dC dI cA 221 3 (s_istore 2) := ok_istore_n (k9 := 2) (by decide +kernel) rfl rfl
theorem o221_4 : OKp l S b Lx xs dC dI cA 221 4 (s_iload 2) := ok_iload_n (k9 := 2) (by decide +kernel) rfl rfl
theorem o221_5 : OKp l S b Lx xs dC dI cA 221 5 (s_if (fun x => x = 0) 8) := ok_if_eq (off := 5) (by decide +kernel) (by decide +kernel) rfl
theorem o221_6 : OKp l S b Lx xs dC dI cA 221 6 (s_iload 2) := ok_iload_n (k9 := 2) (by decide +kernel) rfl rfl
theorem o221_7 : OKp l S b Lx xs dC dI cA 221 7 (s_ret) := ok_ret (by decide +kernel) rfl
theorem o221_8 : OKp l S b Lx xs dC dI cA 221 8 (s_aload 0) := ok_aload_n (k9 := 0) (by decide +kernel) rfl rfl
theorem o221_9 : OKp l S b Lx xs dC dI cA 221 9 (s_aload 0) := ok_aload_n (k9 := 0) (by decide +kernel) rfl rfl
theorem o221_10 : OKp l S b Lx xs dC dI cA 221 10 (s_getR (fun t => t == 12) 8) := ok_getR (by decide +kernel) rfl fd_RX12_34
theorem o221_11 : OKp l S b Lx xs dC dI cA 221 11 (s_iload 1) := ok_iload_n (k9 := 1) (by decide +kernel) rfl rfl
theorem o221_12 : OKp l S b Lx xs dC dI cA 221 12 (s_iald) := ok_iald (by decide +kernel) rfl
theorem o221_13 : OKp l S b Lx xs dC dI cA 221 13 (s_aload 0) := ok_aload_n (k9 := 0) (by decide +kernel) rfl rfl
theorem o221_14 : OKp l S b Lx xs dC dI cA 221 14 (s_getR (fun t => t == 12) 9) := ok_getR (by decide +kernel) rfl fd_RX12_37
theorem o221_15 : OKp l S b Lx xs dC dI cA 221 15 (s_iload 1) := ok_iload_n (k9 := 1) (by decide +kernel) rfl rfl
theorem o221_16 : OKp l S b Lx xs dC dI cA 221 16 (s_iald) := ok_iald (by decide +kernel) rfl
theorem o221_17 : OKp l S b Lx xs dC dI cA 221 17 (s_invV (dv1 12 166 3) [] 2) := ok_invV (dv1_ok vc_RX12_141_12 rfl (by decide) (hXX 166 (by decide))) (by decide +kernel) rfl
theorem o221_18 : OKp l S b Lx xs dC dI cA 221 18 (s_if (fun x => x = 0) 26) := ok_if_eq (off := 14) (by decide +kernel) (by decide +kernel) rfl
theorem o221_19 : OKp l S b Lx xs dC dI cA 221 19 (s_aload 0) := ok_aload_n (k9 := 0) (by decide +kernel) rfl rfl
theorem o221_20 : OKp l S b Lx xs dC dI cA 221 20 (s_getR (fun t => t == 12) 0) := ok_getR (by decide +kernel) rfl fd_RX12_9
theorem o221_21 : OKp l S b Lx xs dC dI cA 221 21 (s_const (1)) := ok_iconst (n := 1) (by decide +kernel) (by decide) rfl
theorem o221_22 : OKp l S b Lx xs dC dI cA 221 22 (s_iald) := ok_iald (by decide +kernel) rfl
theorem o221_23 : OKp l S b Lx xs dC dI cA 221 23 (s_const (1)) := ok_iconst (n := 1) (by decide +kernel) (by decide) rfl
theorem o221_24 : OKp l S b Lx xs dC dI cA 221 24 (s_bin g_isub) := ok_isub (by decide +kernel) rfl
theorem o221_25 : OKp l S b Lx xs dC dI cA 221 25 (s_goto 27) := ok_goto (off := 5) (by decide +kernel) (by decide +kernel)
theorem o221_26 : OKp l S b Lx xs dC dI cA 221 26 (s_const (-2)) := ok_bipush (n := -2) (by decide +kernel) (by decide) rfl
theorem o221_27 : OKp l S b Lx xs dC dI cA 221 27 (s_ret) := ok_ret (by decide +kernel) rfl
theorem a221 (hl9 : l.stackTraces = false) : sm_all (OKp l S b Lx xs dC dI cA 221) 0 sc_221 := ⟨o221_0, o221_1, o221_2, o221_3, o221_4, o221_5, o221_6, o221_7, o221_8, o221_9, o221_10, o221_11, o221_12, o221_13, o221_14, o221_15, o221_16, o221_17, o221_18, o221_19, o221_20, o221_21, o221_22, o221_23, o221_24, o221_25, o221_26, o221_27, trivial⟩
theorem o222_0 : OKp l S b Lx xs dC dI cA 222 0 (s_aload 0) := ok_aload_n (k9 := 0) (by decide +kernel) rfl rfl
theorem o222_1 : OKp l S b Lx xs dC dI cA 222 1 (s_iload 1) := ok_iload_n (k9 := 1) (by decide +kernel) rfl rfl
theorem o222_2 : OKp l S b Lx xs dC dI cA 222 2 (s_invV (dv1 12 220 2) [] 1) := ok_invV (dv1_ok vc_RX12_251_12 rfl (by decide) (hXX 220 (by decide))) (by decide +kernel) rfl
theorem o222_3 : OKp l S b Lx xs dC dI cA 222 3 (s_istore 2) := ok_istore_n (k9 := 2) (by decide +kernel) rfl rfl
theorem o222_4 : OKp l S b Lx xs dC dI cA 222 4 (s_iload 2) := ok_iload_n (k9 := 2) (by decide +kernel) rfl rfl
theorem o222_5 : OKp l S b Lx xs dC dI cA 222 5 (s_if (fun x => x = 0) 8) := ok_if_eq (off := 7) (by decide +kernel) (by decide +kernel) rfl
theorem o222_6 : OKp l S b Lx xs dC dI cA 222 6 (s_iload 2) := ok_iload_n (k9 := 2) (by decide +kernel) rfl rfl
theorem o222_7 : OKp l S b Lx xs dC dI cA 222 7 (s_goto 17) := ok_goto (off := 18) (by decide +kernel) (by decide +kernel)
theorem o222_8 : OKp l S b Lx xs dC dI cA 222 8 (s_aload 0) := ok_aload_n (k9 := 0) (by decide +kernel) rfl rfl
theorem o222_9 : OKp l S b Lx xs dC dI cA 222 9 (s_getR (fun t => t == 12) 8) := ok_getR (by decide +kernel) rfl fd_RX12_34
theorem o222_10 : OKp l S b Lx xs dC dI cA 222 10 (s_iload 1) := ok_iload_n (k9 := 1) (by decide +kernel) rfl rfl
theorem o222_11 : OKp l S b Lx xs dC dI cA 222 11 (s_iald) := ok_iald (by decide +kernel) rfl
theorem o222_12 : OKp l S b Lx xs dC dI cA 222 12 (s_aload 0) := ok_aload_n (k9 := 0) (by decide +kernel) rfl rfl
theorem o222_13 : OKp l S b Lx xs dC dI cA 222 13 (s_getR (fun t => t == 12) 9) := ok_getR (by decide +kernel) rfl fd_RX12_37
theorem o222_14 : OKp l S b Lx xs dC dI cA 222 14 (s_iload 1) := ok_iload_n (k9 := 1) (by decide +kernel) rfl rfl
theorem o222_15 : OKp l S b Lx xs dC dI cA 222 15 (s_iald) := ok_iald (by decide +kernel) rfl
theorem o222_16 : OKp l S b Lx xs dC dI cA 222 16 (s_invS 214 2 2) := ok_invS rfl rfl (by decide) (hXX 214 (by decide)) w_1336 w_1337 w_61 c_214 (by decide +kernel) (by decide +kernel) rfl
theorem o222_17 : OKp l S b Lx xs dC dI cA 222 17 (s_ret) := ok_ret (by decide +kernel) rfl
theorem a222 (hl9 : l.stackTraces = false) : sm_all (OKp l S b Lx xs dC dI cA 222) 0 sc_222 := ⟨o222_0, o222_1, o222_2, o222_3, o222_4, o222_5, o222_6, o222_7, o222_8, o222_9, o222_10, o222_11, o222_12, o222_13, o222_14, o222_15, o222_16, o222_17, trivial⟩
theorem o223_0 : OKp l S b Lx xs dC dI cA 223 0 (s_aload 0) := ok_aload_n (k9 := 0) (by decide +kernel) rfl rfl
theorem o223_1 : OKp l S b Lx xs dC dI cA 223 1 (s_iload 1) := ok_iload_n (k9 := 1) (by decide +kernel) rfl rfl
theorem o223_2 : OKp l S b Lx xs dC dI cA 223 2 (s_invV (dv1 12 220 2) [] 1) := ok_invV (dv1_ok vc_RX12_251_12 rfl (by decide) (hXX 220 (by decide))) (by decide +kernel) rfl
theorem o223_3 : OKp l S b Lx xs dC dI cA 223 3 (s_istore 2) := ok_istore_n (k9 := 2) (by decide +kernel) rfl rfl
theorem o223_4 : OKp l S b Lx xs dC dI cA 223 4 (s_iload 2) := ok_iload_n (k9 := 2) (by decide +kernel) rfl rfl
theorem o223_5 : OKp l S b Lx xs dC dI cA 223 5 (s_if (fun x => x = 0) 8) := ok_if_eq (off := 5) (by decide +kernel) (by decide +kernel) rfl
theorem o223_6 : OKp l S b Lx xs dC dI cA 223 6 (s_iload 2) := ok_iload_n (k9 := 2) (by decide +kernel) rfl rfl
theorem o223_7 : OKp l S b Lx xs dC dI cA 223 7 (s_ret) := ok_ret (by decide +kernel) rfl
theorem o223_8 : OKp l S b Lx xs dC dI cA 223 8 (s_aload 0) := ok_aload_n (k9 := 0) (by decide +kernel) rfl rfl
theorem o223_9 : OKp l S b Lx xs dC dI cA 223 9 (s_getR (fun t => t == 12) 8) := ok_getR (by decide +kernel) rfl fd_RX12_34
theorem o223_10 : OKp l S b Lx xs dC dI cA 223 10 (s_iload 1) := ok_iload_n (k9 := 1) (by decide +kernel) rfl rfl
theorem o223_11 : OKp l S b Lx xs dC dI cA 223 11 (s_iald) := ok_iald (by decide +kernel) rfl
theorem o223_12 : OKp l S b Lx xs dC dI cA 223 12 (s_istore 3) := ok_istore_n (k9 := 3) (by decide +kernel) rfl rfl
theorem o223_13 : OKp l S b Lx xs dC dI cA 223 13 (s_aload 0) := ok_aload_n (k9 := 0) (by decide +kernel) rfl rfl
theorem o223_14 : OKp l S b Lx xs dC dI cA 223 14 (s_getR (fun t => t == 12) 9) := ok_getR (by decide +kernel) rfl fd_RX12_37
theorem o223_15 : OKp l S b Lx xs dC dI cA 223 15 (s_iload 1) := ok_iload_n (k9 := 1) (by decide +kernel) rfl rfl
theorem o223_16 : OKp l S b Lx xs dC dI cA 223 16 (s_iald) := ok_iald (by decide +kernel) rfl
theorem o223_17 : OKp l S b Lx xs dC dI cA 223 17 (s_istore 4) := ok_istore (by decide +kernel) rfl
theorem o223_18 : OKp l S b Lx xs dC dI cA 223 18 (s_iload 3) := ok_iload_n (k9 := 3) (by decide +kernel) rfl rfl
theorem o223_19 : OKp l S b Lx xs dC dI cA 223 19 (s_const (6)) := ok_bipush (n := 6) (by decide +kernel) (by decide) rfl
theorem o223_20 : OKp l S b Lx xs dC dI cA 223 20 (s_icmp (fun x y => x = y) 23) := ok_icmp_eq (off := 8) (by decide +kernel) (by decide +kernel) rfl
theorem o223_21 : OKp l S b Lx xs dC dI cA 223 21 (s_iload 4) := ok_iload (by decide +kernel) rfl
theorem o223_22 : OKp l S b Lx xs dC dI cA 223 22 (s_if (fun x => x ≠ 0) 25) := ok_if_ne (off := 8) (by decide +kernel) (by decide +kernel) rfl
theorem o223_23 : OKp l S b Lx xs dC dI cA 223 23 (s_const (-15)) := ok_bipush (n := -15) (by decide +kernel) (by decide) rfl
theorem o223_24 : OKp l S b Lx xs dC dI cA 223 24 (s_goto 42) := ok_goto (off := 37) (by decide +kernel) (by decide +kernel)
theorem o223_25 : OKp l S b Lx xs dC dI cA 223 25 (s_iload 3) := ok_iload_n (k9 := 3) (by decide +kernel) rfl rfl
theorem o223_26 : OKp l S b Lx xs dC dI cA 223 26 (s_const (3)) := ok_iconst (n := 3) (by decide +kernel) (by decide) rfl
theorem o223_27 : OKp l S b Lx xs dC dI cA 223 27 (s_icmp (fun x y => x ≠ y) 32) := ok_icmp_ne (off := 11) (by decide +kernel) (by decide +kernel) rfl
theorem o223_28 : OKp l S b Lx xs dC dI cA 223 28 (s_const (100)) := ok_bipush (n := 100) (by decide +kernel) (by decide) rfl
theorem o223_29 : OKp l S b Lx xs dC dI cA 223 29 (s_iload 4) := ok_iload (by decide +kernel) rfl
theorem o223_30 : OKp l S b Lx xs dC dI cA 223 30 (s_bin g_iadd) := ok_iadd (by decide +kernel) rfl
theorem o223_31 : OKp l S b Lx xs dC dI cA 223 31 (s_goto 42) := ok_goto (off := 24) (by decide +kernel) (by decide +kernel)
theorem o223_32 : OKp l S b Lx xs dC dI cA 223 32 (s_iload 3) := ok_iload_n (k9 := 3) (by decide +kernel) rfl rfl
theorem o223_33 : OKp l S b Lx xs dC dI cA 223 33 (s_const (7)) := ok_bipush (n := 7) (by decide +kernel) (by decide) rfl
theorem o223_34 : OKp l S b Lx xs dC dI cA 223 34 (s_icmp (fun x y => x ≠ y) 41) := ok_icmp_ne (off := 16) (by decide +kernel) (by decide +kernel) rfl
theorem o223_35 : OKp l S b Lx xs dC dI cA 223 35 (s_const (200)) := ok_sipush (n := 200) (by decide +kernel) (by decide) rfl
theorem o223_36 : OKp l S b Lx xs dC dI cA 223 36 (s_iload 3) := ok_iload_n (k9 := 3) (by decide +kernel) rfl rfl
theorem o223_37 : OKp l S b Lx xs dC dI cA 223 37 (s_iload 4) := ok_iload (by decide +kernel) rfl
theorem o223_38 : OKp l S b Lx xs dC dI cA 223 38 (s_invS 214 2 2) := ok_invS rfl rfl (by decide) (hXX 214 (by decide)) w_1336 w_1337 w_61 c_214 (by decide +kernel) (by decide +kernel) rfl
theorem o223_39 : OKp l S b Lx xs dC dI cA 223 39 (s_bin g_iadd) := ok_iadd (by decide +kernel) rfl
theorem o223_40 : OKp l S b Lx xs dC dI cA 223 40 (s_goto 42) := ok_goto (off := 5) (by decide +kernel) (by decide +kernel)
theorem o223_41 : OKp l S b Lx xs dC dI cA 223 41 (s_iload 4) := ok_iload (by decide +kernel) rfl
theorem o223_42 : OKp l S b Lx xs dC dI cA 223 42 (s_ret) := ok_ret (by decide +kernel) rfl
theorem a223 (hl9 : l.stackTraces = false) : sm_all (OKp l S b Lx xs dC dI cA 223) 0 sc_223 := ⟨o223_0, o223_1, o223_2, o223_3, o223_4, o223_5, o223_6, o223_7, o223_8, o223_9, o223_10, o223_11, o223_12, o223_13, o223_14, o223_15, o223_16, o223_17, o223_18, o223_19, o223_20, o223_21, o223_22, o223_23, o223_24, o223_25, o223_26, o223_27, o223_28, o223_29, o223_30, o223_31, o223_32, o223_33, o223_34, o223_35, o223_36, o223_37, o223_38, o223_39, o223_40, o223_41, o223_42, trivial⟩
theorem o224_0 : OKp l S b Lx xs dC dI cA 224 0 (s_iload 0) := ok_iload_n (k9 := 0) (by decide +kernel) rfl rfl
theorem o224_1 : OKp l S b Lx xs dC dI cA 224 1 (s_iload 0) := ok_iload_n (k9 := 0) (by decide +kernel) rfl rfl
theorem o224_2 : OKp l S b Lx xs dC dI cA 224 2 (s_const (1)) := ok_iconst (n := 1) (by decide +kernel) (by decide) rfl
theorem o224_3 : OKp l S b Lx xs dC dI cA 224 3 (s_bin g_iushr) := ok_iushr (by decide +kernel) rfl
theorem o224_4 : OKp l S b Lx xs dC dI cA 224 4 (s_const (1431655765)) := ok_ldcw (k := 265) (by decide +kernel) w_394 rfl
theorem o224_5 : OKp l S b Lx xs dC dI cA 224 5 (s_bin g_iand) := ok_iand (by decide +kernel) rfl
theorem o224_6 : OKp l S b Lx xs dC dI cA 224 6 (s_bin g_isub) := ok_isub (by decide +kernel) rfl
theorem o224_7 : OKp l S b Lx xs dC dI cA 224 7 (s_istore 0) := ok_istore_n (k9 := 0) (by decide +kernel) rfl rfl
theorem o224_8 : OKp l S b Lx xs dC dI cA 224 8 (s_iload 0) := ok_iload_n (k9 := 0) (by decide +kernel) rfl rfl
theorem o224_9 : OKp l S b Lx xs dC dI cA 224 9 (s_const (858993459)) := ok_ldcw (k := 266) (by decide +kernel) w_395 rfl
theorem o224_10 : OKp l S b Lx xs dC dI cA 224 10 (s_bin g_iand) := ok_iand (by decide +kernel) rfl
theorem o224_11 : OKp l S b Lx xs dC dI cA 224 11 (s_iload 0) := ok_iload_n (k9 := 0) (by decide +kernel) rfl rfl
theorem o224_12 : OKp l S b Lx xs dC dI cA 224 12 (s_const (2)) := ok_iconst (n := 2) (by decide +kernel) (by decide) rfl
theorem o224_13 : OKp l S b Lx xs dC dI cA 224 13 (s_bin g_iushr) := ok_iushr (by decide +kernel) rfl
theorem o224_14 : OKp l S b Lx xs dC dI cA 224 14 (s_const (858993459)) := ok_ldcw (k := 266) (by decide +kernel) w_395 rfl
theorem o224_15 : OKp l S b Lx xs dC dI cA 224 15 (s_bin g_iand) := ok_iand (by decide +kernel) rfl
theorem o224_16 : OKp l S b Lx xs dC dI cA 224 16 (s_bin g_iadd) := ok_iadd (by decide +kernel) rfl
theorem o224_17 : OKp l S b Lx xs dC dI cA 224 17 (s_istore 0) := ok_istore_n (k9 := 0) (by decide +kernel) rfl rfl
theorem o224_18 : OKp l S b Lx xs dC dI cA 224 18 (s_iload 0) := ok_iload_n (k9 := 0) (by decide +kernel) rfl rfl
theorem o224_19 : OKp l S b Lx xs dC dI cA 224 19 (s_iload 0) := ok_iload_n (k9 := 0) (by decide +kernel) rfl rfl
theorem o224_20 : OKp l S b Lx xs dC dI cA 224 20 (s_const (4)) := ok_iconst (n := 4) (by decide +kernel) (by decide) rfl
theorem o224_21 : OKp l S b Lx xs dC dI cA 224 21 (s_bin g_iushr) := ok_iushr (by decide +kernel) rfl
theorem o224_22 : OKp l S b Lx xs dC dI cA 224 22 (s_bin g_iadd) := ok_iadd (by decide +kernel) rfl
theorem o224_23 : OKp l S b Lx xs dC dI cA 224 23 (s_const (252645135)) := ok_ldcw (k := 267) (by decide +kernel) w_396 rfl
theorem o224_24 : OKp l S b Lx xs dC dI cA 224 24 (s_bin g_iand) := ok_iand (by decide +kernel) rfl
theorem o224_25 : OKp l S b Lx xs dC dI cA 224 25 (s_istore 0) := ok_istore_n (k9 := 0) (by decide +kernel) rfl rfl
theorem o224_26 : OKp l S b Lx xs dC dI cA 224 26 (s_iload 0) := ok_iload_n (k9 := 0) (by decide +kernel) rfl rfl
theorem o224_27 : OKp l S b Lx xs dC dI cA 224 27 (s_iload 0) := ok_iload_n (k9 := 0) (by decide +kernel) rfl rfl
theorem o224_28 : OKp l S b Lx xs dC dI cA 224 28 (s_const (8)) := ok_bipush (n := 8) (by decide +kernel) (by decide) rfl
theorem o224_29 : OKp l S b Lx xs dC dI cA 224 29 (s_bin g_iushr) := ok_iushr (by decide +kernel) rfl
theorem o224_30 : OKp l S b Lx xs dC dI cA 224 30 (s_bin g_iadd) := ok_iadd (by decide +kernel) rfl
theorem o224_31 : OKp l S b Lx xs dC dI cA 224 31 (s_istore 0) := ok_istore_n (k9 := 0) (by decide +kernel) rfl rfl
theorem o224_32 : OKp l S b Lx xs dC dI cA 224 32 (s_iload 0) := ok_iload_n (k9 := 0) (by decide +kernel) rfl rfl
theorem o224_33 : OKp l S b Lx xs dC dI cA 224 33 (s_iload 0) := ok_iload_n (k9 := 0) (by decide +kernel) rfl rfl
theorem o224_34 : OKp l S b Lx xs dC dI cA 224 34 (s_const (16)) := ok_bipush (n := 16) (by decide +kernel) (by decide) rfl
theorem o224_35 : OKp l S b Lx xs dC dI cA 224 35 (s_bin g_iushr) := ok_iushr (by decide +kernel) rfl
theorem o224_36 : OKp l S b Lx xs dC dI cA 224 36 (s_bin g_iadd) := ok_iadd (by decide +kernel) rfl
theorem o224_37 : OKp l S b Lx xs dC dI cA 224 37 (s_istore 0) := ok_istore_n (k9 := 0) (by decide +kernel) rfl rfl
theorem o224_38 : OKp l S b Lx xs dC dI cA 224 38 (s_iload 0) := ok_iload_n (k9 := 0) (by decide +kernel) rfl rfl
theorem o224_39 : OKp l S b Lx xs dC dI cA 224 39 (s_const (63)) := ok_bipush (n := 63) (by decide +kernel) (by decide) rfl
theorem o224_40 : OKp l S b Lx xs dC dI cA 224 40 (s_bin g_iand) := ok_iand (by decide +kernel) rfl
theorem o224_41 : OKp l S b Lx xs dC dI cA 224 41 (s_ret) := ok_ret (by decide +kernel) rfl
theorem a224 (hl9 : l.stackTraces = false) : sm_all (OKp l S b Lx xs dC dI cA 224) 0 sc_224 := ⟨o224_0, o224_1, o224_2, o224_3, o224_4, o224_5, o224_6, o224_7, o224_8, o224_9, o224_10, o224_11, o224_12, o224_13, o224_14, o224_15, o224_16, o224_17, o224_18, o224_19, o224_20, o224_21, o224_22, o224_23, o224_24, o224_25, o224_26, o224_27, o224_28, o224_29, o224_30, o224_31, o224_32, o224_33, o224_34, o224_35, o224_36, o224_37, o224_38, o224_39, o224_40, o224_41, trivial⟩
end SMOKS
