section SMOKS
variable {l : Launch} {S b Lx : Nat} {xs : Nat → Int32} {dC : Nat → ClassId} {dI : Nat → Nat → Nat} {cA : Nat → ClassId}
theorem o90_0 : OKp l S b Lx xs dC dI cA 90 0 (s_aload 0) := ok_aload_n (k9 := 0) (by decide +kernel) rfl rfl
theorem o90_1 : OKp l S b Lx xs dC dI cA 90 1 (s_getR (fun t => t == 11) 0) := ok_getR (by decide +kernel) rfl fd_RX11_10
theorem o90_2 : OKp l S b Lx xs dC dI cA 90 2 (s_iload 1) := ok_iload_n (k9 := 1) (by decide +kernel) rfl rfl
theorem o90_3 : OKp l S b Lx xs dC dI cA 90 3 (s_invV (dv1 10 68 2) [] 1) := ok_invV (dv1_ok vc_RX11_106_10 rfl (by decide) (hXX 68 (by decide))) (by decide +kernel) rfl
theorem o90_4 : OKp l S b Lx xs dC dI cA 90 4 (s_astore 3) := ok_astore_n (k9 := 3) (by decide +kernel) rfl rfl
theorem o90_5 : OKp l S b Lx xs dC dI cA 90 5 (s_aload 0) := ok_aload_n (k9 := 0) (by decide +kernel) rfl rfl
theorem o90_6 : OKp l S b Lx xs dC dI cA 90 6 (s_getR (fun t => t == 11) 0) := ok_getR (by decide +kernel) rfl fd_RX11_10
theorem o90_7 : OKp l S b Lx xs dC dI cA 90 7 (s_iload 2) := ok_iload_n (k9 := 2) (by decide +kernel) rfl rfl
theorem o90_8 : OKp l S b Lx xs dC dI cA 90 8 (s_invV (dv1 10 67 2) [] 1) := ok_invV (dv1_ok vc_RX11_76_10 rfl (by decide) (hXX 67 (by decide))) (by decide +kernel) rfl
theorem o90_9 : OKp l S b Lx xs dC dI cA 90 9 (s_astore 4) := ok_astore (by decide +kernel) rfl
theorem o90_10 : OKp l S b Lx xs dC dI cA 90 10 (s_aload 3) := ok_aload_n (k9 := 3) (by decide +kernel) rfl rfl
theorem o90_11 : OKp l S b Lx xs dC dI cA 90 11 (s_ifnull 14) := ok_ifnull (off := 8) (by decide +kernel) (by decide +kernel) rfl
theorem o90_12 : OKp l S b Lx xs dC dI cA 90 12 (s_aload 4) := ok_aload (by decide +kernel) rfl
theorem o90_13 : OKp l S b Lx xs dC dI cA 90 13 (s_ifnonnull 16) := ok_ifnonnull (off := 5) (by decide +kernel) (by decide +kernel) rfl
theorem o90_14 : OKp l S b Lx xs dC dI cA 90 14 (s_const (-1)) := ok_iconst (n := -1) (by decide +kernel) (by decide) rfl
theorem o90_15 : OKp l S b Lx xs dC dI cA 90 15 (s_ret) := ok_ret (by decide +kernel) rfl
theorem o90_16 : OKp l S b Lx xs dC dI cA 90 16 (s_aload 3) := ok_aload_n (k9 := 3) (by decide +kernel) rfl rfl
theorem o90_17 : OKp l S b Lx xs dC dI cA 90 17 (s_aload 4) := ok_aload (by decide +kernel) rfl
theorem o90_18 : OKp l S b Lx xs dC dI cA 90 18 (s_aload 4) := ok_aload (by decide +kernel) rfl
theorem o90_19 : OKp l S b Lx xs dC dI cA 90 19 (s_getI (fun t => t == 1) 3) := ok_getI (by decide +kernel) rfl fd_RX11_85
theorem o90_20 : OKp l S b Lx xs dC dI cA 90 20 (s_const (30)) := ok_bipush (n := 30) (by decide +kernel) (by decide) rfl
theorem o90_21 : OKp l S b Lx xs dC dI cA 90 21 (s_invS 126 4 6) := ok_invS rfl rfl (by decide) (hXX 126 (by decide)) w_641 w_642 w_57 c_126 (by decide +kernel) (by decide +kernel) rfl
theorem o90_22 : OKp l S b Lx xs dC dI cA 90 22 (s_ret) := ok_ret (by decide +kernel) rfl
theorem a90 (hl9 : l.stackTraces = false) : sm_all (OKp l S b Lx xs dC dI cA 90) 0 sc_90 := ⟨o90_0, o90_1, o90_2, o90_3, o90_4, o90_5, o90_6, o90_7, o90_8, o90_9, o90_10, o90_11, o90_12, o90_13, o90_14, o90_15, o90_16, o90_17, o90_18, o90_19, o90_20, o90_21, o90_22, trivial⟩
theorem o91_0 : OKp l S b Lx xs dC dI cA 91 0 (s_aload 0) := ok_aload_n (k9 := 0) (by decide +kernel) rfl rfl
theorem o91_1 : OKp l S b Lx xs dC dI cA 91 1 (s_iload 1) := ok_iload_n (k9 := 1) (by decide +kernel) rfl rfl
theorem o91_2 : OKp l S b Lx xs dC dI cA 91 2 (s_invV (dv1 11 113 2) [] 1) := ok_invV (dv1_ok vc_RX11_46_11 rfl (by decide) (hXX 113 (by decide))) (by decide +kernel) rfl
theorem o91_3 : OKp l S b Lx xs dC dI cA 91 3 (s_astore 4) := ok_astore (by decide +kernel) rfl
theorem o91_4 : OKp l S b Lx xs dC dI cA 91 4 (s_iload 2) := ok_iload_n (k9 := 2) (by decide +kernel) rfl rfl
theorem o91_5 : OKp l S b Lx xs dC dI cA 91 5 (s_iload 3) := ok_iload_n (k9 := 3) (by decide +kernel) rfl rfl
theorem o91_6 : OKp l S b Lx xs dC dI cA 91 6 (s_invS 136 2 2) := ok_invS rfl rfl (by decide) (hXX 136 (by decide)) w_648 w_263 w_57 c_136 (by decide +kernel) (by decide +kernel) rfl
theorem o91_7 : OKp l S b Lx xs dC dI cA 91 7 (s_astore 5) := ok_astore (by decide +kernel) rfl
theorem o91_8 : OKp l S b Lx xs dC dI cA 91 8 (s_aload 4) := ok_aload (by decide +kernel) rfl
theorem o91_9 : OKp l S b Lx xs dC dI cA 91 9 (s_ifnull 12) := ok_ifnull (off := 8) (by decide +kernel) (by decide +kernel) rfl
theorem o91_10 : OKp l S b Lx xs dC dI cA 91 10 (s_aload 5) := ok_aload (by decide +kernel) rfl
theorem o91_11 : OKp l S b Lx xs dC dI cA 91 11 (s_ifnonnull 14) := ok_ifnonnull (off := 5) (by decide +kernel) (by decide +kernel) rfl
theorem o91_12 : OKp l S b Lx xs dC dI cA 91 12 (s_const (-1)) := ok_iconst (n := -1) (by decide +kernel) (by decide) rfl
theorem o91_13 : OKp l S b Lx xs dC dI cA 91 13 (s_ret) := ok_ret (by decide +kernel) rfl
theorem o91_14 : OKp l S b Lx xs dC dI cA 91 14 (s_aload 0) := ok_aload_n (k9 := 0) (by decide +kernel) rfl rfl
theorem o91_15 : OKp l S b Lx xs dC dI cA 91 15 (s_aload 4) := ok_aload (by decide +kernel) rfl
theorem o91_16 : OKp l S b Lx xs dC dI cA 91 16 (s_invV (dv1 11 118 4) [] 1) := ok_invV (dv1_ok vc_RX11_139_11 rfl (by decide) (hXX 118 (by decide))) (by decide +kernel) rfl
theorem o91_17 : OKp l S b Lx xs dC dI cA 91 17 (s_istore 6) := ok_istore (by decide +kernel) rfl
theorem o91_18 : OKp l S b Lx xs dC dI cA 91 18 (s_iload 6) := ok_iload (by decide +kernel) rfl
theorem o91_19 : OKp l S b Lx xs dC dI cA 91 19 (s_if (fun x => x = 0) 22) := ok_if_eq (off := 8) (by decide +kernel) (by decide +kernel) rfl
theorem o91_20 : OKp l S b Lx xs dC dI cA 91 20 (s_iload 6) := ok_iload (by decide +kernel) rfl
theorem o91_21 : OKp l S b Lx xs dC dI cA 91 21 (s_goto 27) := ok_goto (off := 13) (by decide +kernel) (by decide +kernel)
theorem o91_22 : OKp l S b Lx xs dC dI cA 91 22 (s_aload 0) := ok_aload_n (k9 := 0) (by decide +kernel) rfl rfl
theorem o91_23 : OKp l S b Lx xs dC dI cA 91 23 (s_aload 4) := ok_aload (by decide +kernel) rfl
theorem o91_24 : OKp l S b Lx xs dC dI cA 91 24 (s_aload 5) := ok_aload (by decide +kernel) rfl
theorem o91_25 : OKp l S b Lx xs dC dI cA 91 25 (s_const (-4)) := ok_bipush (n := -4) (by decide +kernel) (by decide) rfl
theorem o91_26 : OKp l S b Lx xs dC dI cA 91 26 (s_invV (dv1 11 124 8) [] 3) := ok_invV (dv1_ok vc_RX11_142_11 rfl (by decide) (hXX 124 (by decide))) (by decide +kernel) rfl
theorem o91_27 : OKp l S b Lx xs dC dI cA 91 27 (s_ret) := ok_ret (by decide +kernel) rfl
theorem a91 (hl9 : l.stackTraces = false) : sm_all (OKp l S b Lx xs dC dI cA 91) 0 sc_91 := ⟨o91_0, o91_1, o91_2, o91_3, o91_4, o91_5, o91_6, o91_7, o91_8, o91_9, o91_10, o91_11, o91_12, o91_13, o91_14, o91_15, o91_16, o91_17, o91_18, o91_19, o91_20, o91_21, o91_22, o91_23, o91_24, o91_25, o91_26, o91_27, trivial⟩
theorem o92_0 : OKp l S b Lx xs dC dI cA 92 0 (s_aload 0) := ok_aload_n (k9 := 0) (by decide +kernel) rfl rfl
theorem o92_1 : OKp l S b Lx xs dC dI cA 92 1 (s_iload 2) := ok_iload_n (k9 := 2) (by decide +kernel) rfl rfl
theorem o92_2 : OKp l S b Lx xs dC dI cA 92 2 (s_invV (dv1 11 113 2) [] 1) := ok_invV (dv1_ok vc_RX11_46_11 rfl (by decide) (hXX 113 (by decide))) (by decide +kernel) rfl
theorem o92_3 : OKp l S b Lx xs dC dI cA 92 3 (s_astore 3) := ok_astore_n (k9 := 3) (by decide +kernel) rfl rfl
theorem o92_4 : OKp l S b Lx xs dC dI cA 92 4 (s_aload 3) := ok_aload_n (k9 := 3) (by decide +kernel) rfl rfl
theorem o92_5 : OKp l S b Lx xs dC dI cA 92 5 (s_ifnull 11) := ok_ifnull (off := 14) (by decide +kernel) (by decide +kernel) rfl
theorem o92_6 : OKp l S b Lx xs dC dI cA 92 6 (s_aload 0) := ok_aload_n (k9 := 0) (by decide +kernel) rfl rfl
theorem o92_7 : OKp l S b Lx xs dC dI cA 92 7 (s_getR (fun t => t == 11) 0) := ok_getR (by decide +kernel) rfl fd_RX11_10
theorem o92_8 : OKp l S b Lx xs dC dI cA 92 8 (s_iload 1) := ok_iload_n (k9 := 1) (by decide +kernel) rfl rfl
theorem o92_9 : OKp l S b Lx xs dC dI cA 92 9 (s_invV (dv1 10 68 2) [] 1) := ok_invV (dv1_ok vc_RX11_106_10 rfl (by decide) (hXX 68 (by decide))) (by decide +kernel) rfl
theorem o92_10 : OKp l S b Lx xs dC dI cA 92 10 (s_ifnonnull 13) := ok_ifnonnull (off := 5) (by decide +kernel) (by decide +kernel) rfl
theorem o92_11 : OKp l S b Lx xs dC dI cA 92 11 (s_const (-1)) := ok_iconst (n := -1) (by decide +kernel) (by decide) rfl
theorem o92_12 : OKp l S b Lx xs dC dI cA 92 12 (s_ret) := ok_ret (by decide +kernel) rfl
theorem o92_13 : OKp l S b Lx xs dC dI cA 92 13 (s_aload 0) := ok_aload_n (k9 := 0) (by decide +kernel) rfl rfl
theorem o92_14 : OKp l S b Lx xs dC dI cA 92 14 (s_aload 3) := ok_aload_n (k9 := 3) (by decide +kernel) rfl rfl
theorem o92_15 : OKp l S b Lx xs dC dI cA 92 15 (s_invV (dv1 11 118 4) [] 1) := ok_invV (dv1_ok vc_RX11_139_11 rfl (by decide) (hXX 118 (by decide))) (by decide +kernel) rfl
theorem o92_16 : OKp l S b Lx xs dC dI cA 92 16 (s_istore 4) := ok_istore (by decide +kernel) rfl
theorem o92_17 : OKp l S b Lx xs dC dI cA 92 17 (s_iload 4) := ok_iload (by decide +kernel) rfl
theorem o92_18 : OKp l S b Lx xs dC dI cA 92 18 (s_if (fun x => x = 0) 21) := ok_if_eq (off := 8) (by decide +kernel) (by decide +kernel) rfl
theorem o92_19 : OKp l S b Lx xs dC dI cA 92 19 (s_iload 4) := ok_iload (by decide +kernel) rfl
theorem o92_20 : OKp l S b Lx xs dC dI cA 92 20 (s_goto 26) := ok_goto (off := 10) (by decide +kernel) (by decide +kernel)
theorem o92_21 : OKp l S b Lx xs dC dI cA 92 21 (s_aload 0) := ok_aload_n (k9 := 0) (by decide +kernel) rfl rfl
theorem o92_22 : OKp l S b Lx xs dC dI cA 92 22 (s_aload 3) := ok_aload_n (k9 := 3) (by decide +kernel) rfl rfl
theorem o92_23 : OKp l S b Lx xs dC dI cA 92 23 (s_null) := ok_null (by decide +kernel) rfl
theorem o92_24 : OKp l S b Lx xs dC dI cA 92 24 (s_iload 1) := ok_iload_n (k9 := 1) (by decide +kernel) rfl rfl
theorem o92_25 : OKp l S b Lx xs dC dI cA 92 25 (s_invV (dv1 11 124 8) [] 3) := ok_invV (dv1_ok vc_RX11_142_11 rfl (by decide) (hXX 124 (by decide))) (by decide +kernel) rfl
theorem o92_26 : OKp l S b Lx xs dC dI cA 92 26 (s_ret) := ok_ret (by decide +kernel) rfl
theorem a92 (hl9 : l.stackTraces = false) : sm_all (OKp l S b Lx xs dC dI cA 92) 0 sc_92 := ⟨o92_0, o92_1, o92_2, o92_3, o92_4, o92_5, o92_6, o92_7, o92_8, o92_9, o92_10, o92_11, o92_12, o92_13, o92_14, o92_15, o92_16, o92_17, o92_18, o92_19, o92_20, o92_21, o92_22, o92_23, o92_24, o92_25, o92_26, trivial⟩
theorem o93_0 : OKp l S b Lx xs dC dI cA 93 0 (s_aload 0) := ok_aload_n (k9 := 0) (by decide +kernel) rfl rfl
theorem o93_1 : OKp l S b Lx xs dC dI cA 93 1 (s_getR (fun t => t == 11) 0) := ok_getR (by decide +kernel) rfl fd_RX11_10
theorem o93_2 : OKp l S b Lx xs dC dI cA 93 2 (s_iload 2) := ok_iload_n (k9 := 2) (by decide +kernel) rfl rfl
theorem o93_3 : OKp l S b Lx xs dC dI cA 93 3 (s_invV (dv1 10 67 2) [] 1) := ok_invV (dv1_ok vc_RX11_76_10 rfl (by decide) (hXX 67 (by decide))) (by decide +kernel) rfl
theorem o93_4 : OKp l S b Lx xs dC dI cA 93 4 (s_astore 3) := ok_astore_n (k9 := 3) (by decide +kernel) rfl rfl
theorem o93_5 : OKp l S b Lx xs dC dI cA 93 5 (s_aload 3) := ok_aload_n (k9 := 3) (by decide +kernel) rfl rfl
theorem o93_6 : OKp l S b Lx xs dC dI cA 93 6 (s_ifnull 12) := ok_ifnull (off := 14) (by decide +kernel) (by decide +kernel) rfl
theorem o93_7 : OKp l S b Lx xs dC dI cA 93 7 (s_aload 0) := ok_aload_n (k9 := 0) (by decide +kernel) rfl rfl
theorem o93_8 : OKp l S b Lx xs dC dI cA 93 8 (s_getR (fun t => t == 11) 0) := ok_getR (by decide +kernel) rfl fd_RX11_10
theorem o93_9 : OKp l S b Lx xs dC dI cA 93 9 (s_iload 1) := ok_iload_n (k9 := 1) (by decide +kernel) rfl rfl
theorem o93_10 : OKp l S b Lx xs dC dI cA 93 10 (s_invV (dv1 10 68 2) [] 1) := ok_invV (dv1_ok vc_RX11_106_10 rfl (by decide) (hXX 68 (by decide))) (by decide +kernel) rfl
theorem o93_11 : OKp l S b Lx xs dC dI cA 93 11 (s_ifnonnull 14) := ok_ifnonnull (off := 5) (by decide +kernel) (by decide +kernel) rfl
theorem o93_12 : OKp l S b Lx xs dC dI cA 93 12 (s_const (-1)) := ok_iconst (n := -1) (by decide +kernel) (by decide) rfl
theorem o93_13 : OKp l S b Lx xs dC dI cA 93 13 (s_ret) := ok_ret (by decide +kernel) rfl
theorem o93_14 : OKp l S b Lx xs dC dI cA 93 14 (s_aload 3) := ok_aload_n (k9 := 3) (by decide +kernel) rfl rfl
theorem o93_15 : OKp l S b Lx xs dC dI cA 93 15 (s_iload 1) := ok_iload_n (k9 := 1) (by decide +kernel) rfl rfl
theorem o93_16 : OKp l S b Lx xs dC dI cA 93 16 (s_invV (dv1 1 14 4) [] 1) := ok_invV (dv1_ok vc_RX11_170_1 rfl (by decide) (hXX 14 (by decide))) (by decide +kernel) rfl
theorem o93_17 : OKp l S b Lx xs dC dI cA 93 17 (s_ret) := ok_ret (by decide +kernel) rfl
theorem a93 (hl9 : l.stackTraces = false) : sm_all (OKp l S b Lx xs dC dI cA 93) 0 sc_93 := ⟨o93_0, o93_1, o93_2, o93_3, o93_4, o93_5, o93_6, o93_7, o93_8, o93_9, o93_10, o93_11, o93_12, o93_13, o93_14, o93_15, o93_16, o93_17, trivial⟩
theorem o94_0 : OKp l S b Lx xs dC dI cA 94 0 (s_aload 0) := ok_aload_n (k9 := 0) (by decide +kernel) rfl rfl
theorem o94_1 : OKp l S b Lx xs dC dI cA 94 1 (s_getR (fun t => t == 11) 0) := ok_getR (by decide +kernel) rfl fd_RX11_10
theorem o94_2 : OKp l S b Lx xs dC dI cA 94 2 (s_iload 1) := ok_iload_n (k9 := 1) (by decide +kernel) rfl rfl
theorem o94_3 : OKp l S b Lx xs dC dI cA 94 3 (s_invV (dv1 10 67 2) [] 1) := ok_invV (dv1_ok vc_RX11_76_10 rfl (by decide) (hXX 67 (by decide))) (by decide +kernel) rfl
theorem o94_4 : OKp l S b Lx xs dC dI cA 94 4 (s_astore 2) := ok_astore_n (k9 := 2) (by decide +kernel) rfl rfl
theorem o94_5 : OKp l S b Lx xs dC dI cA 94 5 (s_aload 2) := ok_aload_n (k9 := 2) (by decide +kernel) rfl rfl
theorem o94_6 : OKp l S b Lx xs dC dI cA 94 6 (s_ifnonnull 9) := ok_ifnonnull (off := 5) (by decide +kernel) (by decide +kernel) rfl
theorem o94_7 : OKp l S b Lx xs dC dI cA 94 7 (s_const (-1)) := ok_iconst (n := -1) (by decide +kernel) (by decide) rfl
theorem o94_8 : OKp l S b Lx xs dC dI cA 94 8 (s_ret) := ok_ret (by decide +kernel) rfl
theorem o94_9 : OKp l S b Lx xs dC dI cA 94 9 (s_const (0)) := ok_iconst (n := 0) (by decide +kernel) (by decide) rfl
theorem o94_10 : OKp l S b Lx xs dC dI cA 94 10 (s_istore 3) := ok_istore_n (k9 := 3) (by decide +kernel) rfl rfl
theorem o94_11 : OKp l S b Lx xs dC dI cA 94 11 (s_const (0)) := ok_iconst (n := 0) (by decide +kernel) (by decide) rfl
theorem o94_12 : OKp l S b Lx xs dC dI cA 94 12 (s_istore 4) := ok_istore (by decide +kernel) rfl
theorem o94_13 : OKp l S b Lx xs dC dI cA 94 13 (s_iload 4) := ok_iload (by decide +kernel) rfl
theorem o94_14 : OKp l S b Lx xs dC dI cA 94 14 (s_const (8)) := ok_bipush (n := 8) (by decide +kernel) (by decide) rfl
theorem o94_15 : OKp l S b Lx xs dC dI cA 94 15 (s_icmp (fun x y => y ≤ x) 40) := ok_icmp_ge (off := 50) (by decide +kernel) (by decide +kernel) rfl
theorem o94_16 : OKp l S b Lx xs dC dI cA 94 16 (s_aload 2) := ok_aload_n (k9 := 2) (by decide +kernel) rfl rfl
theorem o94_17 : OKp l S b Lx xs dC dI cA 94 17 (s_iload 4) := ok_iload (by decide +kernel) rfl
theorem o94_18 : OKp l S b Lx xs dC dI cA 94 18 (s_invV (dv1 1 7 2) [] 1) := ok_invV (dv1_ok vc_RX11_93_1 rfl (by decide) (hXX 7 (by decide))) (by decide +kernel) rfl
theorem o94_19 : OKp l S b Lx xs dC dI cA 94 19 (s_if (fun x => x = 0) 38) := ok_if_eq (off := 35) (by decide +kernel) (by decide +kernel) rfl
theorem o94_20 : OKp l S b Lx xs dC dI cA 94 20 (s_aload 2) := ok_aload_n (k9 := 2) (by decide +kernel) rfl rfl
theorem o94_21 : OKp l S b Lx xs dC dI cA 94 21 (s_iload 4) := ok_iload (by decide +kernel) rfl
theorem o94_22 : OKp l S b Lx xs dC dI cA 94 22 (s_invV (dv1 1 8 2) [] 1) := ok_invV (dv1_ok vc_RX11_97_1 rfl (by decide) (hXX 8 (by decide))) (by decide +kernel) rfl
theorem o94_23 : OKp l S b Lx xs dC dI cA 94 23 (s_if (fun x => x ≠ 0) 38) := ok_if_ne (off := 26) (by decide +kernel) (by decide +kernel) rfl
theorem o94_24 : OKp l S b Lx xs dC dI cA 94 24 (s_aload 2) := ok_aload_n (k9 := 2) (by decide +kernel) rfl rfl
theorem o94_25 : OKp l S b Lx xs dC dI cA 94 25 (s_iload 4) := ok_iload (by decide +kernel) rfl
theorem o94_26 : OKp l S b Lx xs dC dI cA 94 26 (s_invV (dv1 1 11 2) [] 1) := ok_invV (dv1_ok vc_RX11_103_1 rfl (by decide) (hXX 11 (by decide))) (by decide +kernel) rfl
theorem o94_27 : OKp l S b Lx xs dC dI cA 94 27 (s_istore 5) := ok_istore (by decide +kernel) rfl
theorem o94_28 : OKp l S b Lx xs dC dI cA 94 28 (s_iload 5) := ok_iload (by decide +kernel) rfl
theorem o94_29 : OKp l S b Lx xs dC dI cA 94 29 (s_if (fun x => 0 ≤ x) 32) := ok_if_ge (off := 6) (by decide +kernel) (by decide +kernel) rfl
theorem o94_30 : OKp l S b Lx xs dC dI cA 94 30 (s_const (-4)) := ok_bipush (n := -4) (by decide +kernel) (by decide) rfl
theorem o94_31 : OKp l S b Lx xs dC dI cA 94 31 (s_ret) := ok_ret (by decide +kernel) rfl
theorem o94_32 : OKp l S b Lx xs dC dI cA 94 32 (s_iload 3) := ok_iload_n (k9 := 3) (by decide +kernel) rfl rfl
theorem o94_33 : OKp l S b Lx xs dC dI cA 94 33 (s_const (1)) := ok_iconst (n := 1) (by decide +kernel) (by decide) rfl
theorem o94_34 : OKp l S b Lx xs dC dI cA 94 34 (s_iload 5) := ok_iload (by decide +kernel) rfl
theorem o94_35 : OKp l S b Lx xs dC dI cA 94 35 (s_bin g_ishl) := ok_ishl (by decide +kernel) rfl
theorem o94_36 : OKp l S b Lx xs dC dI cA 94 36 (s_bin g_ior) := ok_ior (by decide +kernel) rfl
theorem o94_37 : OKp l S b Lx xs dC dI cA 94 37 (s_istore 3) := ok_istore_n (k9 := 3) (by decide +kernel) rfl rfl
theorem o94_38 : OKp l S b Lx xs dC dI cA 94 38 (s_iinc 4 (1)) := ok_iinc (n := 1) (by decide +kernel) (by decide) rfl
theorem o94_39 : OKp l S b Lx xs dC dI cA 94 39 (s_goto 13) := ok_goto (off := -51) (by decide +kernel) (by decide +kernel)
theorem o94_40 : OKp l S b Lx xs dC dI cA 94 40 (s_iload 3) := ok_iload_n (k9 := 3) (by decide +kernel) rfl rfl
theorem o94_41 : OKp l S b Lx xs dC dI cA 94 41 (s_ret) := ok_ret (by decide +kernel) rfl
theorem a94 (hl9 : l.stackTraces = false) : sm_all (OKp l S b Lx xs dC dI cA 94) 0 sc_94 := ⟨o94_0, o94_1, o94_2, o94_3, o94_4, o94_5, o94_6, o94_7, o94_8, o94_9, o94_10, o94_11, o94_12, o94_13, o94_14, o94_15, o94_16, o94_17, o94_18, o94_19, o94_20, o94_21, o94_22, o94_23, o94_24, o94_25, o94_26, o94_27, o94_28, o94_29, o94_30, o94_31, o94_32, o94_33, o94_34, o94_35, o94_36, o94_37, o94_38, o94_39, o94_40, o94_41, trivial⟩
theorem o95_0 : OKp l S b Lx xs dC dI cA 95 0 (s_aload 0) := ok_aload_n (k9 := 0) (by decide +kernel) rfl rfl
theorem o95_1 : OKp l S b Lx xs dC dI cA 95 1 (s_getR (fun t => t == 11) 0) := ok_getR (by decide +kernel) rfl fd_RX11_10
theorem o95_2 : OKp l S b Lx xs dC dI cA 95 2 (s_iload 1) := ok_iload_n (k9 := 1) (by decide +kernel) rfl rfl
theorem o95_3 : OKp l S b Lx xs dC dI cA 95 3 (s_invV (dv1 10 67 2) [] 1) := ok_invV (dv1_ok vc_RX11_76_10 rfl (by decide) (hXX 67 (by decide))) (by decide +kernel) rfl
theorem o95_4 : OKp l S b Lx xs dC dI cA 95 4 (s_astore 3) := ok_astore_n (k9 := 3) (by decide +kernel) rfl rfl
theorem o95_5 : OKp l S b Lx xs dC dI cA 95 5 (s_aload 0) := ok_aload_n (k9 := 0) (by decide +kernel) rfl rfl
theorem o95_6 : OKp l S b Lx xs dC dI cA 95 6 (s_getR (fun t => t == 11) 0) := ok_getR (by decide +kernel) rfl fd_RX11_10
theorem o95_7 : OKp l S b Lx xs dC dI cA 95 7 (s_iload 2) := ok_iload_n (k9 := 2) (by decide +kernel) rfl rfl
theorem o95_8 : OKp l S b Lx xs dC dI cA 95 8 (s_invV (dv1 10 67 2) [] 1) := ok_invV (dv1_ok vc_RX11_76_10 rfl (by decide) (hXX 67 (by decide))) (by decide +kernel) rfl
theorem o95_9 : OKp l S b Lx xs dC dI cA 95 9 (s_astore 4) := ok_astore (by decide +kernel) rfl
theorem o95_10 : OKp l S b Lx xs dC dI cA 95 10 (s_aload 3) := ok_aload_n (k9 := 3) (by decide +kernel) rfl rfl
theorem o95_11 : OKp l S b Lx xs dC dI cA 95 11 (s_ifnull 17) := ok_ifnull (off := 13) (by decide +kernel) (by decide +kernel) rfl
theorem o95_12 : OKp l S b Lx xs dC dI cA 95 12 (s_aload 4) := ok_aload (by decide +kernel) rfl
theorem o95_13 : OKp l S b Lx xs dC dI cA 95 13 (s_ifnull 17) := ok_ifnull (off := 8) (by decide +kernel) (by decide +kernel) rfl
theorem o95_14 : OKp l S b Lx xs dC dI cA 95 14 (s_iload 1) := ok_iload_n (k9 := 1) (by decide +kernel) rfl rfl
theorem o95_15 : OKp l S b Lx xs dC dI cA 95 15 (s_iload 2) := ok_iload_n (k9 := 2) (by decide +kernel) rfl rfl
theorem o95_16 : OKp l S b Lx xs dC dI cA 95 16 (s_icmp (fun x y => x ≠ y) 19) := ok_icmp_ne (off := 5) (by decide +kernel) (by decide +kernel) rfl
theorem o95_17 : OKp l S b Lx xs dC dI cA 95 17 (s_const (-1)) := ok_iconst (n := -1) (by decide +kernel) (by decide) rfl
theorem o95_18 : OKp l S b Lx xs dC dI cA 95 18 (s_ret) := ok_ret (by decide +kernel) rfl
theorem o95_19 : OKp l S b Lx xs dC dI cA 95 19 (s_aload 3) := ok_aload_n (k9 := 3) (by decide +kernel) rfl rfl
theorem o95_20 : OKp l S b Lx xs dC dI cA 95 20 (s_getI (fun t => t == 1) 2) := ok_getI (by decide +kernel) rfl fd_RX11_80
theorem o95_21 : OKp l S b Lx xs dC dI cA 95 21 (s_aload 4) := ok_aload (by decide +kernel) rfl
theorem o95_22 : OKp l S b Lx xs dC dI cA 95 22 (s_getI (fun t => t == 1) 2) := ok_getI (by decide +kernel) rfl fd_RX11_80
theorem o95_23 : OKp l S b Lx xs dC dI cA 95 23 (s_icmp (fun x y => x = y) 26) := ok_icmp_eq (off := 8) (by decide +kernel) (by decide +kernel) rfl
theorem o95_24 : OKp l S b Lx xs dC dI cA 95 24 (s_const (-4)) := ok_bipush (n := -4) (by decide +kernel) (by decide) rfl
theorem o95_25 : OKp l S b Lx xs dC dI cA 95 25 (s_goto 31) := ok_goto (off := 13) (by decide +kernel) (by decide +kernel)
theorem o95_26 : OKp l S b Lx xs dC dI cA 95 26 (s_aload 3) := ok_aload_n (k9 := 3) (by decide +kernel) rfl rfl
theorem o95_27 : OKp l S b Lx xs dC dI cA 95 27 (s_getI (fun t => t == 1) 3) := ok_getI (by decide +kernel) rfl fd_RX11_85
theorem o95_28 : OKp l S b Lx xs dC dI cA 95 28 (s_aload 4) := ok_aload (by decide +kernel) rfl
theorem o95_29 : OKp l S b Lx xs dC dI cA 95 29 (s_getI (fun t => t == 1) 3) := ok_getI (by decide +kernel) rfl fd_RX11_85
theorem o95_30 : OKp l S b Lx xs dC dI cA 95 30 (s_bin g_ior) := ok_ior (by decide +kernel) rfl
theorem o95_31 : OKp l S b Lx xs dC dI cA 95 31 (s_ret) := ok_ret (by decide +kernel) rfl
theorem a95 (hl9 : l.stackTraces = false) : sm_all (OKp l S b Lx xs dC dI cA 95) 0 sc_95 := ⟨o95_0, o95_1, o95_2, o95_3, o95_4, o95_5, o95_6, o95_7, o95_8, o95_9, o95_10, o95_11, o95_12, o95_13, o95_14, o95_15, o95_16, o95_17, o95_18, o95_19, o95_20, o95_21, o95_22, o95_23, o95_24, o95_25, o95_26, o95_27, o95_28, o95_29, o95_30, o95_31, trivial⟩
theorem o96_0 : OKp l S b Lx xs dC dI cA 96 0 (s_aload 0) := ok_aload_n (k9 := 0) (by decide +kernel) rfl rfl
theorem o96_1 : OKp l S b Lx xs dC dI cA 96 1 (s_getR (fun t => t == 11) 0) := ok_getR (by decide +kernel) rfl fd_RX11_10
theorem o96_2 : OKp l S b Lx xs dC dI cA 96 2 (s_iload 1) := ok_iload_n (k9 := 1) (by decide +kernel) rfl rfl
theorem o96_3 : OKp l S b Lx xs dC dI cA 96 3 (s_invV (dv1 10 67 2) [] 1) := ok_invV (dv1_ok vc_RX11_76_10 rfl (by decide) (hXX 67 (by decide))) (by decide +kernel) rfl
theorem o96_4 : OKp l S b Lx xs dC dI cA 96 4 (s_astore 4) := ok_astore (by decide +kernel) rfl
theorem o96_5 : OKp l S b Lx xs dC dI cA 96 5 (s_aload 0) := ok_aload_n (k9 := 0) (by decide +kernel) rfl rfl
theorem o96_6 : OKp l S b Lx xs dC dI cA 96 6 (s_iload 2) := ok_iload_n (k9 := 2) (by decide +kernel) rfl rfl
theorem o96_7 : OKp l S b Lx xs dC dI cA 96 7 (s_invV (dv1 11 113 2) [] 1) := ok_invV (dv1_ok vc_RX11_46_11 rfl (by decide) (hXX 113 (by decide))) (by decide +kernel) rfl
theorem o96_8 : OKp l S b Lx xs dC dI cA 96 8 (s_astore 5) := ok_astore (by decide +kernel) rfl
theorem o96_9 : OKp l S b Lx xs dC dI cA 96 9 (s_aload 4) := ok_aload (by decide +kernel) rfl
theorem o96_10 : OKp l S b Lx xs dC dI cA 96 10 (s_ifnull 18) := ok_ifnull (off := 17) (by decide +kernel) (by decide +kernel) rfl
theorem o96_11 : OKp l S b Lx xs dC dI cA 96 11 (s_aload 5) := ok_aload (by decide +kernel) rfl
theorem o96_12 : OKp l S b Lx xs dC dI cA 96 12 (s_ifnull 18) := ok_ifnull (off := 12) (by decide +kernel) (by decide +kernel) rfl
theorem o96_13 : OKp l S b Lx xs dC dI cA 96 13 (s_iload 3) := ok_iload_n (k9 := 3) (by decide +kernel) rfl rfl
theorem o96_14 : OKp l S b Lx xs dC dI cA 96 14 (s_if (fun x => x < 0) 18) := ok_if_lt (off := 8) (by decide +kernel) (by decide +kernel) rfl
theorem o96_15 : OKp l S b Lx xs dC dI cA 96 15 (s_iload 3) := ok_iload_n (k9 := 3) (by decide +kernel) rfl rfl
theorem o96_16 : OKp l S b Lx xs dC dI cA 96 16 (s_const (1)) := ok_iconst (n := 1) (by decide +kernel) (by decide) rfl
theorem o96_17 : OKp l S b Lx xs dC dI cA 96 17 (s_icmp (fun x y => x ≤ y) 20) := ok_icmp_le (off := 5) (by decide +kernel) (by decide +kernel) rfl
theorem o96_18 : OKp l S b Lx xs dC dI cA 96 18 (s_const (-1)) := ok_iconst (n := -1) (by decide +kernel) (by decide) rfl
theorem o96_19 : OKp l S b Lx xs dC dI cA 96 19 (s_ret) := ok_ret (by decide +kernel) rfl
theorem o96_20 : OKp l S b Lx xs dC dI cA 96 20 (s_aload 0) := ok_aload_n (k9 := 0) (by decide +kernel) rfl rfl
theorem o96_21 : OKp l S b Lx xs dC dI cA 96 21 (s_aload 5) := ok_aload (by decide +kernel) rfl
theorem o96_22 : OKp l S b Lx xs dC dI cA 96 22 (s_invV (dv1 11 117 4) [] 1) := ok_invV (dv1_ok vc_RX11_152_11 rfl (by decide) (hXX 117 (by decide))) (by decide +kernel) rfl
theorem o96_23 : OKp l S b Lx xs dC dI cA 96 23 (s_istore 6) := ok_istore (by decide +kernel) rfl
theorem o96_24 : OKp l S b Lx xs dC dI cA 96 24 (s_iload 6) := ok_iload (by decide +kernel) rfl
theorem o96_25 : OKp l S b Lx xs dC dI cA 96 25 (s_if (fun x => x = 0) 28) := ok_if_eq (off := 6) (by decide +kernel) (by decide +kernel) rfl
theorem o96_26 : OKp l S b Lx xs dC dI cA 96 26 (s_iload 6) := ok_iload (by decide +kernel) rfl
theorem o96_27 : OKp l S b Lx xs dC dI cA 96 27 (s_ret) := ok_ret (by decide +kernel) rfl
theorem o96_28 : OKp l S b Lx xs dC dI cA 96 28 (s_aload 4) := ok_aload (by decide +kernel) rfl
theorem o96_29 : OKp l S b Lx xs dC dI cA 96 29 (s_invV (dv1 1 9 1) [] 0) := ok_invV (dv1_ok vc_RX11_173_1 rfl (by decide) (hXX 9 (by decide))) (by decide +kernel) rfl
theorem o96_30 : OKp l S b Lx xs dC dI cA 96 30 (s_aload 4) := ok_aload (by decide +kernel) rfl
theorem o96_31 : OKp l S b Lx xs dC dI cA 96 31 (s_getI (fun t => t == 1) 3) := ok_getI (by decide +kernel) rfl fd_RX11_85
theorem o96_32 : OKp l S b Lx xs dC dI cA 96 32 (s_const (-1)) := ok_iconst (n := -1) (by decide +kernel) (by decide) rfl
theorem o96_33 : OKp l S b Lx xs dC dI cA 96 33 (s_bin g_ixor) := ok_ixor (by decide +kernel) rfl
theorem o96_34 : OKp l S b Lx xs dC dI cA 96 34 (s_bin g_iand) := ok_iand (by decide +kernel) rfl
theorem o96_35 : OKp l S b Lx xs dC dI cA 96 35 (s_istore 7) := ok_istore (by decide +kernel) rfl
theorem o96_36 : OKp l S b Lx xs dC dI cA 96 36 (s_const (-4)) := ok_bipush (n := -4) (by decide +kernel) (by decide) rfl
theorem o96_37 : OKp l S b Lx xs dC dI cA 96 37 (s_istore 8) := ok_istore (by decide +kernel) rfl
theorem o96_38 : OKp l S b Lx xs dC dI cA 96 38 (s_const (0)) := ok_iconst (n := 0) (by decide +kernel) (by decide) rfl
theorem o96_39 : OKp l S b Lx xs dC dI cA 96 39 (s_istore 9) := ok_istore (by decide +kernel) rfl
theorem o96_40 : OKp l S b Lx xs dC dI cA 96 40 (s_const (0)) := ok_iconst (n := 0) (by decide +kernel) (by decide) rfl
theorem o96_41 : OKp l S b Lx xs dC dI cA 96 41 (s_istore 10) := ok_istore (by decide +kernel) rfl
theorem o96_42 : OKp l S b Lx xs dC dI cA 96 42 (s_iload 10) := ok_iload (by decide +kernel) rfl
theorem o96_43 : OKp l S b Lx xs dC dI cA 96 43 (s_aload 5) := ok_aload (by decide +kernel) rfl
theorem o96_44 : OKp l S b Lx xs dC dI cA 96 44 (s_getI (fun t => t == 8) 3) := ok_getI (by decide +kernel) rfl fd_RX11_61
theorem o96_45 : OKp l S b Lx xs dC dI cA 96 45 (s_icmp (fun x y => y ≤ x) 72) := ok_icmp_ge (off := 66) (by decide +kernel) (by decide +kernel) rfl
theorem o96_46 : OKp l S b Lx xs dC dI cA 96 46 (s_aload 0) := ok_aload_n (k9 := 0) (by decide +kernel) rfl rfl
theorem o96_47 : OKp l S b Lx xs dC dI cA 96 47 (s_getR (fun t => t == 11) 0) := ok_getR (by decide +kernel) rfl fd_RX11_10
theorem o96_48 : OKp l S b Lx xs dC dI cA 96 48 (s_aload 5) := ok_aload (by decide +kernel) rfl
theorem o96_49 : OKp l S b Lx xs dC dI cA 96 49 (s_iload 10) := ok_iload (by decide +kernel) rfl
theorem o96_50 : OKp l S b Lx xs dC dI cA 96 50 (s_invV (dv1 8 57 2) [] 1) := ok_invV (dv1_ok vc_RX11_65_8 rfl (by decide) (hXX 57 (by decide))) (by decide +kernel) rfl
theorem o96_51 : OKp l S b Lx xs dC dI cA 96 51 (s_invV (dv1 10 68 2) [] 1) := ok_invV (dv1_ok vc_RX11_106_10 rfl (by decide) (hXX 68 (by decide))) (by decide +kernel) rfl
theorem o96_52 : OKp l S b Lx xs dC dI cA 96 52 (s_astore 11) := ok_astore (by decide +kernel) rfl
theorem o96_53 : OKp l S b Lx xs dC dI cA 96 53 (s_aload 11) := ok_aload (by decide +kernel) rfl
theorem o96_54 : OKp l S b Lx xs dC dI cA 96 54 (s_ifnull 70) := ok_ifnull (off := 39) (by decide +kernel) (by decide +kernel) rfl
theorem o96_55 : OKp l S b Lx xs dC dI cA 96 55 (s_aload 11) := ok_aload (by decide +kernel) rfl
theorem o96_56 : OKp l S b Lx xs dC dI cA 96 56 (s_aload 4) := ok_aload (by decide +kernel) rfl
theorem o96_57 : OKp l S b Lx xs dC dI cA 96 57 (s_aload 4) := ok_aload (by decide +kernel) rfl
theorem o96_58 : OKp l S b Lx xs dC dI cA 96 58 (s_invV (dv1 1 9 1) [] 0) := ok_invV (dv1_ok vc_RX11_173_1 rfl (by decide) (hXX 9 (by decide))) (by decide +kernel) rfl
theorem o96_59 : OKp l S b Lx xs dC dI cA 96 59 (s_invV dv_4 [] 2) := ok_invV (by intro t y ml h; unfold dv_4 at h; by_cases h0 : t = 0; (subst h0; simp at h; obtain ⟨rfl, rfl⟩ := h; exact ⟨vc_RX11_176_0, rfl, by decide, hXX 49 (by decide)⟩); by_cases h2 : t = 2; (subst h2; simp at h; obtain ⟨rfl, rfl⟩ := h; exact ⟨vc_RX11_176_2, rfl, by decide, hXX 21 (by decide)⟩); by_cases h3 : t = 3; (subst h3; simp at h; obtain ⟨rfl, rfl⟩ := h; exact ⟨vc_RX11_176_3, rfl, by decide, hXX 49 (by decide)⟩); by_cases h4 : t = 4; (subst h4; simp at h; obtain ⟨rfl, rfl⟩ := h; exact ⟨vc_RX11_176_4, rfl, by decide, hXX 49 (by decide)⟩); by_cases h5 : t = 5; (subst h5; simp at h; obtain ⟨rfl, rfl⟩ := h; exact ⟨vc_RX11_176_5, rfl, by decide, hXX 49 (by decide)⟩); by_cases h6 : t = 6; (subst h6; simp at h; obtain ⟨rfl, rfl⟩ := h; exact ⟨vc_RX11_176_6, rfl, by decide, hXX 49 (by decide)⟩); by_cases h7 : t = 7; (subst h7; simp at h; obtain ⟨rfl, rfl⟩ := h; exact ⟨vc_RX11_176_7, rfl, by decide, hXX 49 (by decide)⟩); by_cases h9 : t = 9; (subst h9; simp at h; obtain ⟨rfl, rfl⟩ := h; exact ⟨vc_RX11_176_9, rfl, by decide, hXX 49 (by decide)⟩); simp [h0, h2, h3, h4, h5, h6, h7, h9] at h) (by decide +kernel) rfl
theorem o96_60 : OKp l S b Lx xs dC dI cA 96 60 (s_iload 7) := ok_iload (by decide +kernel) rfl
theorem o96_61 : OKp l S b Lx xs dC dI cA 96 61 (s_icmp (fun x y => x ≠ y) 70) := ok_icmp_ne (off := 22) (by decide +kernel) (by decide +kernel) rfl
theorem o96_62 : OKp l S b Lx xs dC dI cA 96 62 (s_iload 8) := ok_iload (by decide +kernel) rfl
theorem o96_63 : OKp l S b Lx xs dC dI cA 96 63 (s_const (-4)) := ok_bipush (n := -4) (by decide +kernel) (by decide) rfl
theorem o96_64 : OKp l S b Lx xs dC dI cA 96 64 (s_icmp (fun x y => x ≠ y) 67) := ok_icmp_ne (off := 8) (by decide +kernel) (by decide +kernel) rfl
theorem o96_65 : OKp l S b Lx xs dC dI cA 96 65 (s_iload 10) := ok_iload (by decide +kernel) rfl
theorem o96_66 : OKp l S b Lx xs dC dI cA 96 66 (s_goto 68) := ok_goto (off := 5) (by decide +kernel) (by decide +kernel)
theorem o96_67 : OKp l S b Lx xs dC dI cA 96 67 (s_iload 8) := ok_iload (by decide +kernel) rfl
theorem o96_68 : OKp l S b Lx xs dC dI cA 96 68 (s_istore 8) := ok_istore (by decide +kernel) rfl
theorem o96_69 : OKp l S b Lx xs dC dI cA 96 69 (s_iinc 9 (1)) := ok_iinc (n := 1) (by decide +kernel) (by decide) rfl
theorem o96_70 : OKp l S b Lx xs dC dI cA 96 70 (s_iinc 10 (1)) := ok_iinc (n := 1) (by decide +kernel) (by decide) rfl
theorem o96_71 : OKp l S b Lx xs dC dI cA 96 71 (s_goto 42) := ok_goto (off := -70) (by decide +kernel) (by decide +kernel)
theorem o96_72 : OKp l S b Lx xs dC dI cA 96 72 (s_iload 3) := ok_iload_n (k9 := 3) (by decide +kernel) rfl rfl
theorem o96_73 : OKp l S b Lx xs dC dI cA 96 73 (s_if (fun x => x ≠ 0) 76) := ok_if_ne (off := 8) (by decide +kernel) (by decide +kernel) rfl
theorem o96_74 : OKp l S b Lx xs dC dI cA 96 74 (s_iload 9) := ok_iload (by decide +kernel) rfl
theorem o96_75 : OKp l S b Lx xs dC dI cA 96 75 (s_goto 77) := ok_goto (off := 5) (by decide +kernel) (by decide +kernel)
theorem o96_76 : OKp l S b Lx xs dC dI cA 96 76 (s_iload 8) := ok_iload (by decide +kernel) rfl
theorem o96_77 : OKp l S b Lx xs dC dI cA 96 77 (s_ret) := ok_ret (by decide +kernel) rfl
theorem a96_0 (hl9 : l.stackTraces = false) : sm_all (OKp l S b Lx xs dC dI cA 96) 0 sc_96_0 := ⟨o96_0, o96_1, o96_2, o96_3, o96_4, o96_5, o96_6, o96_7, o96_8, o96_9, o96_10, o96_11, o96_12, o96_13, o96_14, o96_15, o96_16, o96_17, o96_18, o96_19, o96_20, o96_21, o96_22, o96_23, o96_24, o96_25, o96_26, o96_27, o96_28, o96_29, o96_30, o96_31, o96_32, o96_33, o96_34, o96_35, o96_36, o96_37, o96_38, o96_39, o96_40, o96_41, o96_42, o96_43, o96_44, o96_45, o96_46, o96_47, o96_48, o96_49, o96_50, o96_51, o96_52, o96_53, o96_54, o96_55, o96_56, o96_57, o96_58, o96_59, trivial⟩
theorem a96_1 (hl9 : l.stackTraces = false) : sm_all (OKp l S b Lx xs dC dI cA 96) 60 sc_96_1 := ⟨o96_60, o96_61, o96_62, o96_63, o96_64, o96_65, o96_66, o96_67, o96_68, o96_69, o96_70, o96_71, o96_72, o96_73, o96_74, o96_75, o96_76, o96_77, trivial⟩
theorem a96 (hl9 : l.stackTraces = false) : sm_all (OKp l S b Lx xs dC dI cA 96) 0 sc_96 := sm_all_app _ _ _ (a96_0 hl9) (a96_1 hl9)
theorem o97_0 : OKp l S b Lx xs dC dI cA 97 0 (s_aload 0) := ok_aload_n (k9 := 0) (by decide +kernel) rfl rfl
theorem o97_1 : OKp l S b Lx xs dC dI cA 97 1 (s_getR (fun t => t == 11) 0) := ok_getR (by decide +kernel) rfl fd_RX11_10
theorem o97_2 : OKp l S b Lx xs dC dI cA 97 2 (s_iload 1) := ok_iload_n (k9 := 1) (by decide +kernel) rfl rfl
theorem o97_3 : OKp l S b Lx xs dC dI cA 97 3 (s_invV (dv1 10 68 2) [] 1) := ok_invV (dv1_ok vc_RX11_106_10 rfl (by decide) (hXX 68 (by decide))) (by decide +kernel) rfl
theorem o97_4 : OKp l S b Lx xs dC dI cA 97 4 (s_astore 4) := ok_astore (by decide +kernel) rfl
theorem o97_5 : OKp l S b Lx xs dC dI cA 97 5 (s_aload 0) := ok_aload_n (k9 := 0) (by decide +kernel) rfl rfl
theorem o97_6 : OKp l S b Lx xs dC dI cA 97 6 (s_getR (fun t => t == 11) 0) := ok_getR (by decide +kernel) rfl fd_RX11_10
theorem o97_7 : OKp l S b Lx xs dC dI cA 97 7 (s_iload 2) := ok_iload_n (k9 := 2) (by decide +kernel) rfl rfl
theorem o97_8 : OKp l S b Lx xs dC dI cA 97 8 (s_invV (dv1 10 68 2) [] 1) := ok_invV (dv1_ok vc_RX11_106_10 rfl (by decide) (hXX 68 (by decide))) (by decide +kernel) rfl
theorem o97_9 : OKp l S b Lx xs dC dI cA 97 9 (s_astore 5) := ok_astore (by decide +kernel) rfl
theorem o97_10 : OKp l S b Lx xs dC dI cA 97 10 (s_aload 0) := ok_aload_n (k9 := 0) (by decide +kernel) rfl rfl
theorem o97_11 : OKp l S b Lx xs dC dI cA 97 11 (s_getR (fun t => t == 11) 0) := ok_getR (by decide +kernel) rfl fd_RX11_10
theorem o97_12 : OKp l S b Lx xs dC dI cA 97 12 (s_iload 3) := ok_iload_n (k9 := 3) (by decide +kernel) rfl rfl
theorem o97_13 : OKp l S b Lx xs dC dI cA 97 13 (s_invV (dv1 10 67 2) [] 1) := ok_invV (dv1_ok vc_RX11_76_10 rfl (by decide) (hXX 67 (by decide))) (by decide +kernel) rfl
theorem o97_14 : OKp l S b Lx xs dC dI cA 97 14 (s_astore 6) := ok_astore (by decide +kernel) rfl
theorem o97_15 : OKp l S b Lx xs dC dI cA 97 15 (s_aload 4) := ok_aload (by decide +kernel) rfl
theorem o97_16 : OKp l S b Lx xs dC dI cA 97 16 (s_ifnull 21) := ok_ifnull (off := 13) (by decide +kernel) (by decide +kernel) rfl
theorem o97_17 : OKp l S b Lx xs dC dI cA 97 17 (s_aload 5) := ok_aload (by decide +kernel) rfl
theorem o97_18 : OKp l S b Lx xs dC dI cA 97 18 (s_ifnull 21) := ok_ifnull (off := 8) (by decide +kernel) (by decide +kernel) rfl
theorem o97_19 : OKp l S b Lx xs dC dI cA 97 19 (s_aload 6) := ok_aload (by decide +kernel) rfl
theorem o97_20 : OKp l S b Lx xs dC dI cA 97 20 (s_ifnonnull 23) := ok_ifnonnull (off := 6) (by decide +kernel) (by decide +kernel) rfl
theorem o97_21 : OKp l S b Lx xs dC dI cA 97 21 (s_const (-1000000001)) := ok_ldc (k := 179) (by decide +kernel) w_675 rfl
theorem o97_22 : OKp l S b Lx xs dC dI cA 97 22 (s_ret) := ok_ret (by decide +kernel) rfl
theorem o97_23 : OKp l S b Lx xs dC dI cA 97 23 (s_aload 6) := ok_aload (by decide +kernel) rfl
theorem o97_24 : OKp l S b Lx xs dC dI cA 97 24 (s_getI (fun t => t == 1) 3) := ok_getI (by decide +kernel) rfl fd_RX11_85
theorem o97_25 : OKp l S b Lx xs dC dI cA 97 25 (s_istore 7) := ok_istore (by decide +kernel) rfl
theorem o97_26 : OKp l S b Lx xs dC dI cA 97 26 (s_const (0)) := ok_iconst (n := 0) (by decide +kernel) (by decide) rfl
theorem o97_27 : OKp l S b Lx xs dC dI cA 97 27 (s_istore 8) := ok_istore (by decide +kernel) rfl
theorem o97_28 : OKp l S b Lx xs dC dI cA 97 28 (s_const (0)) := ok_iconst (n := 0) (by decide +kernel) (by decide) rfl
theorem o97_29 : OKp l S b Lx xs dC dI cA 97 29 (s_istore 9) := ok_istore (by decide +kernel) rfl
theorem o97_30 : OKp l S b Lx xs dC dI cA 97 30 (s_iload 9) := ok_iload (by decide +kernel) rfl
theorem o97_31 : OKp l S b Lx xs dC dI cA 97 31 (s_const (16)) := ok_bipush (n := 16) (by decide +kernel) (by decide) rfl
theorem o97_32 : OKp l S b Lx xs dC dI cA 97 32 (s_icmp (fun x y => y ≤ x) 74) := ok_icmp_ge (off := 87) (by decide +kernel) (by decide +kernel) rfl
theorem o97_33 : OKp l S b Lx xs dC dI cA 97 33 (s_iload 7) := ok_iload (by decide +kernel) rfl
theorem o97_34 : OKp l S b Lx xs dC dI cA 97 34 (s_if (fun x => x = 0) 74) := ok_if_eq (off := 82) (by decide +kernel) (by decide +kernel) rfl
theorem o97_35 : OKp l S b Lx xs dC dI cA 97 35 (s_iload 9) := ok_iload (by decide +kernel) rfl
theorem o97_36 : OKp l S b Lx xs dC dI cA 97 36 (s_const (1)) := ok_iconst (n := 1) (by decide +kernel) (by decide) rfl
theorem o97_37 : OKp l S b Lx xs dC dI cA 97 37 (s_bin g_iand) := ok_iand (by decide +kernel) rfl
theorem o97_38 : OKp l S b Lx xs dC dI cA 97 38 (s_if (fun x => x ≠ 0) 41) := ok_if_ne (off := 7) (by decide +kernel) (by decide +kernel) rfl
theorem o97_39 : OKp l S b Lx xs dC dI cA 97 39 (s_const (1)) := ok_iconst (n := 1) (by decide +kernel) (by decide) rfl
theorem o97_40 : OKp l S b Lx xs dC dI cA 97 40 (s_goto 42) := ok_goto (off := 4) (by decide +kernel) (by decide +kernel)
theorem o97_41 : OKp l S b Lx xs dC dI cA 97 41 (s_const (0)) := ok_iconst (n := 0) (by decide +kernel) (by decide) rfl
theorem o97_42 : OKp l S b Lx xs dC dI cA 97 42 (s_istore 10) := ok_istore (by decide +kernel) rfl
theorem o97_43 : OKp l S b Lx xs dC dI cA 97 43 (s_iload 10) := ok_iload (by decide +kernel) rfl
theorem o97_44 : OKp l S b Lx xs dC dI cA 97 44 (s_if (fun x => x = 0) 47) := ok_if_eq (off := 8) (by decide +kernel) (by decide +kernel) rfl
theorem o97_45 : OKp l S b Lx xs dC dI cA 97 45 (s_aload 4) := ok_aload (by decide +kernel) rfl
theorem o97_46 : OKp l S b Lx xs dC dI cA 97 46 (s_goto 48) := ok_goto (off := 5) (by decide +kernel) (by decide +kernel)
theorem o97_47 : OKp l S b Lx xs dC dI cA 97 47 (s_aload 5) := ok_aload (by decide +kernel) rfl
theorem o97_48 : OKp l S b Lx xs dC dI cA 97 48 (s_astore 11) := ok_astore (by decide +kernel) rfl
theorem o97_49 : OKp l S b Lx xs dC dI cA 97 49 (s_aload 11) := ok_aload (by decide +kernel) rfl
theorem o97_50 : OKp l S b Lx xs dC dI cA 97 50 (s_aload 6) := ok_aload (by decide +kernel) rfl
theorem o97_51 : OKp l S b Lx xs dC dI cA 97 51 (s_iload 7) := ok_iload (by decide +kernel) rfl
theorem o97_52 : OKp l S b Lx xs dC dI cA 97 52 (s_invV dv_3 [] 2) := ok_invV (by intro t y ml h; unfold dv_3 at h; by_cases h0 : t = 0; (subst h0; simp at h; obtain ⟨rfl, rfl⟩ := h; exact ⟨vc_RX11_125_0, rfl, by decide, hXX 47 (by decide)⟩); by_cases h2 : t = 2; (subst h2; simp at h; obtain ⟨rfl, rfl⟩ := h; exact ⟨vc_RX11_125_2, rfl, by decide, hXX 47 (by decide)⟩); by_cases h3 : t = 3; (subst h3; simp at h; obtain ⟨rfl, rfl⟩ := h; exact ⟨vc_RX11_125_3, rfl, by decide, hXX 47 (by decide)⟩); by_cases h4 : t = 4; (subst h4; simp at h; obtain ⟨rfl, rfl⟩ := h; exact ⟨vc_RX11_125_4, rfl, by decide, hXX 47 (by decide)⟩); by_cases h5 : t = 5; (subst h5; simp at h; obtain ⟨rfl, rfl⟩ := h; exact ⟨vc_RX11_125_5, rfl, by decide, hXX 47 (by decide)⟩); by_cases h6 : t = 6; (subst h6; simp at h; obtain ⟨rfl, rfl⟩ := h; exact ⟨vc_RX11_125_6, rfl, by decide, hXX 40 (by decide)⟩); by_cases h7 : t = 7; (subst h7; simp at h; obtain ⟨rfl, rfl⟩ := h; exact ⟨vc_RX11_125_7, rfl, by decide, hXX 47 (by decide)⟩); by_cases h9 : t = 9; (subst h9; simp at h; obtain ⟨rfl, rfl⟩ := h; exact ⟨vc_RX11_125_9, rfl, by decide, hXX 61 (by decide)⟩); simp [h0, h2, h3, h4, h5, h6, h7, h9] at h) (by decide +kernel) rfl
theorem o97_53 : OKp l S b Lx xs dC dI cA 97 53 (s_istore 12) := ok_istore (by decide +kernel) rfl
theorem o97_54 : OKp l S b Lx xs dC dI cA 97 54 (s_iload 8) := ok_iload (by decide +kernel) rfl
theorem o97_55 : OKp l S b Lx xs dC dI cA 97 55 (s_iload 10) := ok_iload (by decide +kernel) rfl
theorem o97_56 : OKp l S b Lx xs dC dI cA 97 56 (s_if (fun x => x = 0) 59) := ok_if_eq (off := 8) (by decide +kernel) (by decide +kernel) rfl
theorem o97_57 : OKp l S b Lx xs dC dI cA 97 57 (s_iload 12) := ok_iload (by decide +kernel) rfl
theorem o97_58 : OKp l S b Lx xs dC dI cA 97 58 (s_goto 61) := ok_goto (off := 6) (by decide +kernel) (by decide +kernel)
theorem o97_59 : OKp l S b Lx xs dC dI cA 97 59 (s_iload 12) := ok_iload (by decide +kernel) rfl
theorem o97_60 : OKp l S b Lx xs dC dI cA 97 60 (s_un g_ineg) := ok_ineg (by decide +kernel) rfl
theorem o97_61 : OKp l S b Lx xs dC dI cA 97 61 (s_bin g_iadd) := ok_iadd (by decide +kernel) rfl
theorem o97_62 : OKp l S b Lx xs dC dI cA 97 62 (s_istore 8) := ok_istore (by decide +kernel) rfl
theorem o97_63 : OKp l S b Lx xs dC dI cA 97 63 (s_iload 7) := ok_iload (by decide +kernel) rfl
theorem o97_64 : OKp l S b Lx xs dC dI cA 97 64 (s_aload 11) := ok_aload (by decide +kernel) rfl
theorem o97_65 : OKp l S b Lx xs dC dI cA 97 65 (s_aload 6) := ok_aload (by decide +kernel) rfl
theorem o97_66 : OKp l S b Lx xs dC dI cA 97 66 (s_iload 7) := ok_iload (by decide +kernel) rfl
theorem o97_67 : OKp l S b Lx xs dC dI cA 97 67 (s_invV dv_4 [] 2) := ok_invV (by intro t y ml h; unfold dv_4 at h; by_cases h0 : t = 0; (subst h0; simp at h; obtain ⟨rfl, rfl⟩ := h; exact ⟨vc_RX11_176_0, rfl, by decide, hXX 49 (by decide)⟩); by_cases h2 : t = 2; (subst h2; simp at h; obtain ⟨rfl, rfl⟩ := h; exact ⟨vc_RX11_176_2, rfl, by decide, hXX 21 (by decide)⟩); by_cases h3 : t = 3; (subst h3; simp at h; obtain ⟨rfl, rfl⟩ := h; exact ⟨vc_RX11_176_3, rfl, by decide, hXX 49 (by decide)⟩); by_cases h4 : t = 4; (subst h4; simp at h; obtain ⟨rfl, rfl⟩ := h; exact ⟨vc_RX11_176_4, rfl, by decide, hXX 49 (by decide)⟩); by_cases h5 : t = 5; (subst h5; simp at h; obtain ⟨rfl, rfl⟩ := h; exact ⟨vc_RX11_176_5, rfl, by decide, hXX 49 (by decide)⟩); by_cases h6 : t = 6; (subst h6; simp at h; obtain ⟨rfl, rfl⟩ := h; exact ⟨vc_RX11_176_6, rfl, by decide, hXX 49 (by decide)⟩); by_cases h7 : t = 7; (subst h7; simp at h; obtain ⟨rfl, rfl⟩ := h; exact ⟨vc_RX11_176_7, rfl, by decide, hXX 49 (by decide)⟩); by_cases h9 : t = 9; (subst h9; simp at h; obtain ⟨rfl, rfl⟩ := h; exact ⟨vc_RX11_176_9, rfl, by decide, hXX 49 (by decide)⟩); simp [h0, h2, h3, h4, h5, h6, h7, h9] at h) (by decide +kernel) rfl
theorem o97_68 : OKp l S b Lx xs dC dI cA 97 68 (s_const (-1)) := ok_iconst (n := -1) (by decide +kernel) (by decide) rfl
theorem o97_69 : OKp l S b Lx xs dC dI cA 97 69 (s_bin g_ixor) := ok_ixor (by decide +kernel) rfl
theorem o97_70 : OKp l S b Lx xs dC dI cA 97 70 (s_bin g_iand) := ok_iand (by decide +kernel) rfl
theorem o97_71 : OKp l S b Lx xs dC dI cA 97 71 (s_istore 7) := ok_istore (by decide +kernel) rfl
theorem o97_72 : OKp l S b Lx xs dC dI cA 97 72 (s_iinc 9 (1)) := ok_iinc (n := 1) (by decide +kernel) (by decide) rfl
theorem o97_73 : OKp l S b Lx xs dC dI cA 97 73 (s_goto 30) := ok_goto (off := -88) (by decide +kernel) (by decide +kernel)
theorem o97_74 : OKp l S b Lx xs dC dI cA 97 74 (s_iload 8) := ok_iload (by decide +kernel) rfl
theorem o97_75 : OKp l S b Lx xs dC dI cA 97 75 (s_ret) := ok_ret (by decide +kernel) rfl
theorem a97_0 (hl9 : l.stackTraces = false) : sm_all (OKp l S b Lx xs dC dI cA 97) 0 sc_97_0 := ⟨o97_0, o97_1, o97_2, o97_3, o97_4, o97_5, o97_6, o97_7, o97_8, o97_9, o97_10, o97_11, o97_12, o97_13, o97_14, o97_15, o97_16, o97_17, o97_18, o97_19, o97_20, o97_21, o97_22, o97_23, o97_24, o97_25, o97_26, o97_27, o97_28, o97_29, o97_30, o97_31, o97_32, o97_33, o97_34, o97_35, o97_36, o97_37, o97_38, o97_39, o97_40, o97_41, o97_42, o97_43, o97_44, o97_45, o97_46, o97_47, o97_48, o97_49, o97_50, o97_51, o97_52, o97_53, o97_54, o97_55, o97_56, o97_57, o97_58, o97_59, trivial⟩
theorem a97_1 (hl9 : l.stackTraces = false) : sm_all (OKp l S b Lx xs dC dI cA 97) 60 sc_97_1 := ⟨o97_60, o97_61, o97_62, o97_63, o97_64, o97_65, o97_66, o97_67, o97_68, o97_69, o97_70, o97_71, o97_72, o97_73, o97_74, o97_75, trivial⟩
theorem a97 (hl9 : l.stackTraces = false) : sm_all (OKp l S b Lx xs dC dI cA 97) 0 sc_97 := sm_all_app _ _ _ (a97_0 hl9) (a97_1 hl9)
theorem o98_0 : OKp l S b Lx xs dC dI cA 98 0 (s_aload 0) := ok_aload_n (k9 := 0) (by decide +kernel) rfl rfl
theorem o98_1 : OKp l S b Lx xs dC dI cA 98 1 (s_getR (fun t => t == 11) 0) := ok_getR (by decide +kernel) rfl fd_RX11_10
theorem o98_2 : OKp l S b Lx xs dC dI cA 98 2 (s_iload 1) := ok_iload_n (k9 := 1) (by decide +kernel) rfl rfl
theorem o98_3 : OKp l S b Lx xs dC dI cA 98 3 (s_invV (dv1 10 68 2) [] 1) := ok_invV (dv1_ok vc_RX11_106_10 rfl (by decide) (hXX 68 (by decide))) (by decide +kernel) rfl
theorem o98_4 : OKp l S b Lx xs dC dI cA 98 4 (s_astore 4) := ok_astore (by decide +kernel) rfl
theorem o98_5 : OKp l S b Lx xs dC dI cA 98 5 (s_aload 0) := ok_aload_n (k9 := 0) (by decide +kernel) rfl rfl
theorem o98_6 : OKp l S b Lx xs dC dI cA 98 6 (s_getR (fun t => t == 11) 0) := ok_getR (by decide +kernel) rfl fd_RX11_10
theorem o98_7 : OKp l S b Lx xs dC dI cA 98 7 (s_iload 2) := ok_iload_n (k9 := 2) (by decide +kernel) rfl rfl
theorem o98_8 : OKp l S b Lx xs dC dI cA 98 8 (s_invV (dv1 10 67 2) [] 1) := ok_invV (dv1_ok vc_RX11_76_10 rfl (by decide) (hXX 67 (by decide))) (by decide +kernel) rfl
theorem o98_9 : OKp l S b Lx xs dC dI cA 98 9 (s_astore 5) := ok_astore (by decide +kernel) rfl
theorem o98_10 : OKp l S b Lx xs dC dI cA 98 10 (s_aload 4) := ok_aload (by decide +kernel) rfl
theorem o98_11 : OKp l S b Lx xs dC dI cA 98 11 (s_ifnull 18) := ok_ifnull (off := 17) (by decide +kernel) (by decide +kernel) rfl
theorem o98_12 : OKp l S b Lx xs dC dI cA 98 12 (s_aload 5) := ok_aload (by decide +kernel) rfl
theorem o98_13 : OKp l S b Lx xs dC dI cA 98 13 (s_ifnull 18) := ok_ifnull (off := 12) (by decide +kernel) (by decide +kernel) rfl
theorem o98_14 : OKp l S b Lx xs dC dI cA 98 14 (s_aload 5) := ok_aload (by decide +kernel) rfl
theorem o98_15 : OKp l S b Lx xs dC dI cA 98 15 (s_iload 3) := ok_iload_n (k9 := 3) (by decide +kernel) rfl rfl
theorem o98_16 : OKp l S b Lx xs dC dI cA 98 16 (s_invV (dv1 1 7 2) [] 1) := ok_invV (dv1_ok vc_RX11_93_1 rfl (by decide) (hXX 7 (by decide))) (by decide +kernel) rfl
theorem o98_17 : OKp l S b Lx xs dC dI cA 98 17 (s_if (fun x => x ≠ 0) 20) := ok_if_ne (off := 6) (by decide +kernel) (by decide +kernel) rfl
theorem o98_18 : OKp l S b Lx xs dC dI cA 98 18 (s_const (-1000000001)) := ok_ldc (k := 179) (by decide +kernel) w_675 rfl
theorem o98_19 : OKp l S b Lx xs dC dI cA 98 19 (s_ret) := ok_ret (by decide +kernel) rfl
theorem o98_20 : OKp l S b Lx xs dC dI cA 98 20 (s_aload 5) := ok_aload (by decide +kernel) rfl
theorem o98_21 : OKp l S b Lx xs dC dI cA 98 21 (s_iload 3) := ok_iload_n (k9 := 3) (by decide +kernel) rfl rfl
theorem o98_22 : OKp l S b Lx xs dC dI cA 98 22 (s_invV (dv1 1 8 2) [] 1) := ok_invV (dv1_ok vc_RX11_97_1 rfl (by decide) (hXX 8 (by decide))) (by decide +kernel) rfl
theorem o98_23 : OKp l S b Lx xs dC dI cA 98 23 (s_if (fun x => x ≠ 0) 26) := ok_if_ne (off := 6) (by decide +kernel) (by decide +kernel) rfl
theorem o98_24 : OKp l S b Lx xs dC dI cA 98 24 (s_const (-1000000003)) := ok_ldc (k := 180) (by decide +kernel) w_680 rfl
theorem o98_25 : OKp l S b Lx xs dC dI cA 98 25 (s_ret) := ok_ret (by decide +kernel) rfl
theorem o98_26 : OKp l S b Lx xs dC dI cA 98 26 (s_aload 4) := ok_aload (by decide +kernel) rfl
theorem o98_27 : OKp l S b Lx xs dC dI cA 98 27 (s_aload 5) := ok_aload (by decide +kernel) rfl
theorem o98_28 : OKp l S b Lx xs dC dI cA 98 28 (s_aload 5) := ok_aload (by decide +kernel) rfl
theorem o98_29 : OKp l S b Lx xs dC dI cA 98 29 (s_getI (fun t => t == 1) 3) := ok_getI (by decide +kernel) rfl fd_RX11_85
theorem o98_30 : OKp l S b Lx xs dC dI cA 98 30 (s_invV dv_3 [] 2) := ok_invV (by intro t y ml h; unfold dv_3 at h; by_cases h0 : t = 0; (subst h0; simp at h; obtain ⟨rfl, rfl⟩ := h; exact ⟨vc_RX11_125_0, rfl, by decide, hXX 47 (by decide)⟩); by_cases h2 : t = 2; (subst h2; simp at h; obtain ⟨rfl, rfl⟩ := h; exact ⟨vc_RX11_125_2, rfl, by decide, hXX 47 (by decide)⟩); by_cases h3 : t = 3; (subst h3; simp at h; obtain ⟨rfl, rfl⟩ := h; exact ⟨vc_RX11_125_3, rfl, by decide, hXX 47 (by decide)⟩); by_cases h4 : t = 4; (subst h4; simp at h; obtain ⟨rfl, rfl⟩ := h; exact ⟨vc_RX11_125_4, rfl, by decide, hXX 47 (by decide)⟩); by_cases h5 : t = 5; (subst h5; simp at h; obtain ⟨rfl, rfl⟩ := h; exact ⟨vc_RX11_125_5, rfl, by decide, hXX 47 (by decide)⟩); by_cases h6 : t = 6; (subst h6; simp at h; obtain ⟨rfl, rfl⟩ := h; exact ⟨vc_RX11_125_6, rfl, by decide, hXX 40 (by decide)⟩); by_cases h7 : t = 7; (subst h7; simp at h; obtain ⟨rfl, rfl⟩ := h; exact ⟨vc_RX11_125_7, rfl, by decide, hXX 47 (by decide)⟩); by_cases h9 : t = 9; (subst h9; simp at h; obtain ⟨rfl, rfl⟩ := h; exact ⟨vc_RX11_125_9, rfl, by decide, hXX 61 (by decide)⟩); simp [h0, h2, h3, h4, h5, h6, h7, h9] at h) (by decide +kernel) rfl
theorem o98_31 : OKp l S b Lx xs dC dI cA 98 31 (s_aload 4) := ok_aload (by decide +kernel) rfl
theorem o98_32 : OKp l S b Lx xs dC dI cA 98 32 (s_aload 5) := ok_aload (by decide +kernel) rfl
theorem o98_33 : OKp l S b Lx xs dC dI cA 98 33 (s_aload 5) := ok_aload (by decide +kernel) rfl
theorem o98_34 : OKp l S b Lx xs dC dI cA 98 34 (s_getI (fun t => t == 1) 3) := ok_getI (by decide +kernel) rfl fd_RX11_85
theorem o98_35 : OKp l S b Lx xs dC dI cA 98 35 (s_const (1)) := ok_iconst (n := 1) (by decide +kernel) (by decide) rfl
theorem o98_36 : OKp l S b Lx xs dC dI cA 98 36 (s_iload 3) := ok_iload_n (k9 := 3) (by decide +kernel) rfl rfl
theorem o98_37 : OKp l S b Lx xs dC dI cA 98 37 (s_bin g_ishl) := ok_ishl (by decide +kernel) rfl
theorem o98_38 : OKp l S b Lx xs dC dI cA 98 38 (s_const (-1)) := ok_iconst (n := -1) (by decide +kernel) (by decide) rfl
theorem o98_39 : OKp l S b Lx xs dC dI cA 98 39 (s_bin g_ixor) := ok_ixor (by decide +kernel) rfl
theorem o98_40 : OKp l S b Lx xs dC dI cA 98 40 (s_bin g_iand) := ok_iand (by decide +kernel) rfl
theorem o98_41 : OKp l S b Lx xs dC dI cA 98 41 (s_invV dv_3 [] 2) := ok_invV (by intro t y ml h; unfold dv_3 at h; by_cases h0 : t = 0; (subst h0; simp at h; obtain ⟨rfl, rfl⟩ := h; exact ⟨vc_RX11_125_0, rfl, by decide, hXX 47 (by decide)⟩); by_cases h2 : t = 2; (subst h2; simp at h; obtain ⟨rfl, rfl⟩ := h; exact ⟨vc_RX11_125_2, rfl, by decide, hXX 47 (by decide)⟩); by_cases h3 : t = 3; (subst h3; simp at h; obtain ⟨rfl, rfl⟩ := h; exact ⟨vc_RX11_125_3, rfl, by decide, hXX 47 (by decide)⟩); by_cases h4 : t = 4; (subst h4; simp at h; obtain ⟨rfl, rfl⟩ := h; exact ⟨vc_RX11_125_4, rfl, by decide, hXX 47 (by decide)⟩); by_cases h5 : t = 5; (subst h5; simp at h; obtain ⟨rfl, rfl⟩ := h; exact ⟨vc_RX11_125_5, rfl, by decide, hXX 47 (by decide)⟩); by_cases h6 : t = 6; (subst h6; simp at h; obtain ⟨rfl, rfl⟩ := h; exact ⟨vc_RX11_125_6, rfl, by decide, hXX 40 (by decide)⟩); by_cases h7 : t = 7; (subst h7; simp at h; obtain ⟨rfl, rfl⟩ := h; exact ⟨vc_RX11_125_7, rfl, by decide, hXX 47 (by decide)⟩); by_cases h9 : t = 9; (subst h9; simp at h; obtain ⟨rfl, rfl⟩ := h; exact ⟨vc_RX11_125_9, rfl, by decide, hXX 61 (by decide)⟩); simp [h0, h2, h3, h4, h5, h6, h7, h9] at h) (by decide +kernel) rfl
theorem o98_42 : OKp l S b Lx xs dC dI cA 98 42 (s_bin g_isub) := ok_isub (by decide +kernel) rfl
theorem o98_43 : OKp l S b Lx xs dC dI cA 98 43 (s_ret) := ok_ret (by decide +kernel) rfl
theorem a98 (hl9 : l.stackTraces = false) : sm_all (OKp l S b Lx xs dC dI cA 98) 0 sc_98 := ⟨o98_0, o98_1, o98_2, o98_3, o98_4, o98_5, o98_6, o98_7, o98_8, o98_9, o98_10, o98_11, o98_12, o98_13, o98_14, o98_15, o98_16, o98_17, o98_18, o98_19, o98_20, o98_21, o98_22, o98_23, o98_24, o98_25, o98_26, o98_27, o98_28, o98_29, o98_30, o98_31, o98_32, o98_33, o98_34, o98_35, o98_36, o98_37, o98_38, o98_39, o98_40, o98_41, o98_42, o98_43, trivial⟩
theorem o99_0 : OKp l S b Lx xs dC dI cA 99 0 (s_aload 0) := ok_aload_n (k9 := 0) (by decide +kernel) rfl rfl
theorem o99_1 : OKp l S b Lx xs dC dI cA 99 1 (s_getR (fun t => t == 11) 0) := ok_getR (by decide +kernel) rfl fd_RX11_10
theorem o99_2 : OKp l S b Lx xs dC dI cA 99 2 (s_iload 1) := ok_iload_n (k9 := 1) (by decide +kernel) rfl rfl
theorem o99_3 : OKp l S b Lx xs dC dI cA 99 3 (s_invV (dv1 10 68 2) [] 1) := ok_invV (dv1_ok vc_RX11_106_10 rfl (by decide) (hXX 68 (by decide))) (by decide +kernel) rfl
theorem o99_4 : OKp l S b Lx xs dC dI cA 99 4 (s_astore 4) := ok_astore (by decide +kernel) rfl
theorem o99_5 : OKp l S b Lx xs dC dI cA 99 5 (s_aload 0) := ok_aload_n (k9 := 0) (by decide +kernel) rfl rfl
theorem o99_6 : OKp l S b Lx xs dC dI cA 99 6 (s_getR (fun t => t == 11) 0) := ok_getR (by decide +kernel) rfl fd_RX11_10
theorem o99_7 : OKp l S b Lx xs dC dI cA 99 7 (s_iload 2) := ok_iload_n (k9 := 2) (by decide +kernel) rfl rfl
theorem o99_8 : OKp l S b Lx xs dC dI cA 99 8 (s_invV (dv1 10 67 2) [] 1) := ok_invV (dv1_ok vc_RX11_76_10 rfl (by decide) (hXX 67 (by decide))) (by decide +kernel) rfl
theorem o99_9 : OKp l S b Lx xs dC dI cA 99 9 (s_astore 5) := ok_astore (by decide +kernel) rfl
theorem o99_10 : OKp l S b Lx xs dC dI cA 99 10 (s_aload 4) := ok_aload (by decide +kernel) rfl
theorem o99_11 : OKp l S b Lx xs dC dI cA 99 11 (s_ifnull 20) := ok_ifnull (off := 19) (by decide +kernel) (by decide +kernel) rfl
theorem o99_12 : OKp l S b Lx xs dC dI cA 99 12 (s_aload 5) := ok_aload (by decide +kernel) rfl
theorem o99_13 : OKp l S b Lx xs dC dI cA 99 13 (s_ifnull 20) := ok_ifnull (off := 14) (by decide +kernel) (by decide +kernel) rfl
theorem o99_14 : OKp l S b Lx xs dC dI cA 99 14 (s_iload 3) := ok_iload_n (k9 := 3) (by decide +kernel) rfl rfl
theorem o99_15 : OKp l S b Lx xs dC dI cA 99 15 (s_const (1)) := ok_iconst (n := 1) (by decide +kernel) (by decide) rfl
theorem o99_16 : OKp l S b Lx xs dC dI cA 99 16 (s_icmp (fun x y => x < y) 20) := ok_icmp_lt (off := 9) (by decide +kernel) (by decide +kernel) rfl
theorem o99_17 : OKp l S b Lx xs dC dI cA 99 17 (s_iload 3) := ok_iload_n (k9 := 3) (by decide +kernel) rfl rfl
theorem o99_18 : OKp l S b Lx xs dC dI cA 99 18 (s_const (40)) := ok_bipush (n := 40) (by decide +kernel) (by decide) rfl
theorem o99_19 : OKp l S b Lx xs dC dI cA 99 19 (s_icmp (fun x y => x ≤ y) 22) := ok_icmp_le (off := 5) (by decide +kernel) (by decide +kernel) rfl
theorem o99_20 : OKp l S b Lx xs dC dI cA 99 20 (s_const (-1)) := ok_iconst (n := -1) (by decide +kernel) (by decide) rfl
theorem o99_21 : OKp l S b Lx xs dC dI cA 99 21 (s_ret) := ok_ret (by decide +kernel) rfl
theorem o99_22 : OKp l S b Lx xs dC dI cA 99 22 (s_aload 4) := ok_aload (by decide +kernel) rfl
theorem o99_23 : OKp l S b Lx xs dC dI cA 99 23 (s_aload 5) := ok_aload (by decide +kernel) rfl
theorem o99_24 : OKp l S b Lx xs dC dI cA 99 24 (s_aload 5) := ok_aload (by decide +kernel) rfl
theorem o99_25 : OKp l S b Lx xs dC dI cA 99 25 (s_invV (dv1 1 9 1) [] 0) := ok_invV (dv1_ok vc_RX11_173_1 rfl (by decide) (hXX 9 (by decide))) (by decide +kernel) rfl
theorem o99_26 : OKp l S b Lx xs dC dI cA 99 26 (s_iload 3) := ok_iload_n (k9 := 3) (by decide +kernel) rfl rfl
theorem o99_27 : OKp l S b Lx xs dC dI cA 99 27 (s_invS 126 4 6) := ok_invS rfl rfl (by decide) (hXX 126 (by decide)) w_641 w_642 w_57 c_126 (by decide +kernel) (by decide +kernel) rfl
theorem o99_28 : OKp l S b Lx xs dC dI cA 99 28 (s_istore 6) := ok_istore (by decide +kernel) rfl
theorem o99_29 : OKp l S b Lx xs dC dI cA 99 29 (s_iload 6) := ok_iload (by decide +kernel) rfl
theorem o99_30 : OKp l S b Lx xs dC dI cA 99 30 (s_const (1)) := ok_iconst (n := 1) (by decide +kernel) (by decide) rfl
theorem o99_31 : OKp l S b Lx xs dC dI cA 99 31 (s_icmp (fun x y => y ≤ x) 34) := ok_icmp_ge (off := 6) (by decide +kernel) (by decide +kernel) rfl
theorem o99_32 : OKp l S b Lx xs dC dI cA 99 32 (s_const (-4)) := ok_bipush (n := -4) (by decide +kernel) (by decide) rfl
theorem o99_33 : OKp l S b Lx xs dC dI cA 99 33 (s_ret) := ok_ret (by decide +kernel) rfl
theorem o99_34 : OKp l S b Lx xs dC dI cA 99 34 (s_iload 3) := ok_iload_n (k9 := 3) (by decide +kernel) rfl rfl
theorem o99_35 : OKp l S b Lx xs dC dI cA 99 35 (s_iload 6) := ok_iload (by decide +kernel) rfl
theorem o99_36 : OKp l S b Lx xs dC dI cA 99 36 (s_bin g_iadd) := ok_iadd (by decide +kernel) rfl
theorem o99_37 : OKp l S b Lx xs dC dI cA 99 37 (s_const (1)) := ok_iconst (n := 1) (by decide +kernel) (by decide) rfl
theorem o99_38 : OKp l S b Lx xs dC dI cA 99 38 (s_bin g_isub) := ok_isub (by decide +kernel) rfl
theorem o99_39 : OKp l S b Lx xs dC dI cA 99 39 (s_iload 6) := ok_iload (by decide +kernel) rfl
theorem o99_40 : OKp l S b Lx xs dC dI cA 99 40 (s_dvr g_idiv) := ok_idiv (by decide +kernel) rfl
theorem o99_41 : OKp l S b Lx xs dC dI cA 99 41 (s_istore 7) := ok_istore (by decide +kernel) rfl
theorem o99_42 : OKp l S b Lx xs dC dI cA 99 42 (s_iload 7) := ok_iload (by decide +kernel) rfl
theorem o99_43 : OKp l S b Lx xs dC dI cA 99 43 (s_const (9)) := ok_bipush (n := 9) (by decide +kernel) (by decide) rfl
theorem o99_44 : OKp l S b Lx xs dC dI cA 99 44 (s_icmp (fun x y => x ≤ y) 47) := ok_icmp_le (off := 8) (by decide +kernel) (by decide +kernel) rfl
theorem o99_45 : OKp l S b Lx xs dC dI cA 99 45 (s_const (-4)) := ok_bipush (n := -4) (by decide +kernel) (by decide) rfl
theorem o99_46 : OKp l S b Lx xs dC dI cA 99 46 (s_goto 48) := ok_goto (off := 5) (by decide +kernel) (by decide +kernel)
theorem o99_47 : OKp l S b Lx xs dC dI cA 99 47 (s_iload 7) := ok_iload (by decide +kernel) rfl
theorem o99_48 : OKp l S b Lx xs dC dI cA 99 48 (s_ret) := ok_ret (by decide +kernel) rfl
theorem a99 (hl9 : l.stackTraces = false) : sm_all (OKp l S b Lx xs dC dI cA 99) 0 sc_99 := ⟨o99_0, o99_1, o99_2, o99_3, o99_4, o99_5, o99_6, o99_7, o99_8, o99_9, o99_10, o99_11, o99_12, o99_13, o99_14, o99_15, o99_16, o99_17, o99_18, o99_19, o99_20, o99_21, o99_22, o99_23, o99_24, o99_25, o99_26, o99_27, o99_28, o99_29, o99_30, o99_31, o99_32, o99_33, o99_34, o99_35, o99_36, o99_37, o99_38, o99_39, o99_40, o99_41, o99_42, o99_43, o99_44, o99_45, o99_46, o99_47, o99_48, trivial⟩
theorem o100_0 : OKp l S b Lx xs dC dI cA 100 0 (s_iload 1) := ok_iload_n (k9 := 1) (by decide +kernel) rfl rfl
theorem o100_1 : OKp l S b Lx xs dC dI cA 100 1 (s_const (1)) := ok_iconst (n := 1) (by decide +kernel) (by decide) rfl
theorem o100_2 : OKp l S b Lx xs dC dI cA 100 2 (s_icmp (fun x y => x < y) 6) := ok_icmp_lt (off := 9) (by decide +kernel) (by decide +kernel) rfl
theorem o100_3 : OKp l S b Lx xs dC dI cA 100 3 (s_iload 1) := ok_iload_n (k9 := 1) (by decide +kernel) rfl rfl
theorem o100_4 : OKp l S b Lx xs dC dI cA 100 4 (s_const (40)) := ok_bipush (n := 40) (by decide +kernel) (by decide) rfl
theorem o100_5 : OKp l S b Lx xs dC dI cA 100 5 (s_icmp (fun x y => x ≤ y) 8) := ok_icmp_le (off := 5) (by decide +kernel) (by decide +kernel) rfl
theorem o100_6 : OKp l S b Lx xs dC dI cA 100 6 (s_const (-1)) := ok_iconst (n := -1) (by decide +kernel) (by decide) rfl
theorem o100_7 : OKp l S b Lx xs dC dI cA 100 7 (s_ret) := ok_ret (by decide +kernel) rfl
theorem o100_8 : OKp l S b Lx xs dC dI cA 100 8 (s_aload 0) := ok_aload_n (k9 := 0) (by decide +kernel) rfl rfl
theorem o100_9 : OKp l S b Lx xs dC dI cA 100 9 (s_getR (fun t => t == 11) 0) := ok_getR (by decide +kernel) rfl fd_RX11_10
theorem o100_10 : OKp l S b Lx xs dC dI cA 100 10 (s_getI (fun t => t == 10) 3) := ok_getI (by decide +kernel) rfl fd_RX11_181
theorem o100_11 : OKp l S b Lx xs dC dI cA 100 11 (s_if (fun x => x = 0) 16) := ok_if_eq (off := 13) (by decide +kernel) (by decide +kernel) rfl
theorem o100_12 : OKp l S b Lx xs dC dI cA 100 12 (s_aload 0) := ok_aload_n (k9 := 0) (by decide +kernel) rfl rfl
theorem o100_13 : OKp l S b Lx xs dC dI cA 100 13 (s_getR (fun t => t == 11) 0) := ok_getR (by decide +kernel) rfl fd_RX11_10
theorem o100_14 : OKp l S b Lx xs dC dI cA 100 14 (s_getI (fun t => t == 10) 2) := ok_getI (by decide +kernel) rfl fd_RX11_184
theorem o100_15 : OKp l S b Lx xs dC dI cA 100 15 (s_if (fun x => x ≠ 0) 18) := ok_if_ne (off := 6) (by decide +kernel) (by decide +kernel) rfl
theorem o100_16 : OKp l S b Lx xs dC dI cA 100 16 (s_const (-3)) := ok_bipush (n := -3) (by decide +kernel) (by decide) rfl
theorem o100_17 : OKp l S b Lx xs dC dI cA 100 17 (s_ret) := ok_ret (by decide +kernel) rfl
theorem o100_18 : OKp l S b Lx xs dC dI cA 100 18 (s_aload 0) := ok_aload_n (k9 := 0) (by decide +kernel) rfl rfl
theorem o100_19 : OKp l S b Lx xs dC dI cA 100 19 (s_invV (dv1 11 121 3) [] 0) := ok_invV (dv1_ok vc_RX11_187_11 rfl (by decide) (hXX 121 (by decide))) (by decide +kernel) rfl
theorem o100_20 : OKp l S b Lx xs dC dI cA 100 20 (s_const (0)) := ok_iconst (n := 0) (by decide +kernel) (by decide) rfl
theorem o100_21 : OKp l S b Lx xs dC dI cA 100 21 (s_istore 3) := ok_istore_n (k9 := 3) (by decide +kernel) rfl rfl
theorem o100_22 : OKp l S b Lx xs dC dI cA 100 22 (s_iload 2) := ok_iload_n (k9 := 2) (by decide +kernel) rfl rfl
theorem o100_23 : OKp l S b Lx xs dC dI cA 100 23 (s_istore 4) := ok_istore (by decide +kernel) rfl
theorem o100_24 : OKp l S b Lx xs dC dI cA 100 24 (s_const (0)) := ok_iconst (n := 0) (by decide +kernel) (by decide) rfl
theorem o100_25 : OKp l S b Lx xs dC dI cA 100 25 (s_istore 5) := ok_istore (by decide +kernel) rfl
theorem o100_26 : OKp l S b Lx xs dC dI cA 100 26 (s_iload 5) := ok_iload (by decide +kernel) rfl
theorem o100_27 : OKp l S b Lx xs dC dI cA 100 27 (s_iload 1) := ok_iload_n (k9 := 1) (by decide +kernel) rfl rfl
theorem o100_28 : OKp l S b Lx xs dC dI cA 100 28 (s_icmp (fun x y => y ≤ x) 59) := ok_icmp_ge (off := 69) (by decide +kernel) (by decide +kernel) rfl
theorem o100_29 : OKp l S b Lx xs dC dI cA 100 29 (s_iload 4) := ok_iload (by decide +kernel) rfl
theorem o100_30 : OKp l S b Lx xs dC dI cA 100 30 (s_invS 132 1 1) := ok_invS rfl rfl (by decide) (hXX 132 (by decide)) w_689 w_690 w_57 c_132 (by decide +kernel) (by decide +kernel) rfl
theorem o100_31 : OKp l S b Lx xs dC dI cA 100 31 (s_istore 4) := ok_istore (by decide +kernel) rfl
theorem o100_32 : OKp l S b Lx xs dC dI cA 100 32 (s_aload 0) := ok_aload_n (k9 := 0) (by decide +kernel) rfl rfl
theorem o100_33 : OKp l S b Lx xs dC dI cA 100 33 (s_getR (fun t => t == 11) 0) := ok_getR (by decide +kernel) rfl fd_RX11_10
theorem o100_34 : OKp l S b Lx xs dC dI cA 100 34 (s_getI (fun t => t == 10) 3) := ok_getI (by decide +kernel) rfl fd_RX11_181
theorem o100_35 : OKp l S b Lx xs dC dI cA 100 35 (s_iload 4) := ok_iload (by decide +kernel) rfl
theorem o100_36 : OKp l S b Lx xs dC dI cA 100 36 (s_invS 133 2 2) := ok_invS rfl rfl (by decide) (hXX 133 (by decide)) w_693 w_694 w_57 c_133 (by decide +kernel) (by decide +kernel) rfl
theorem o100_37 : OKp l S b Lx xs dC dI cA 100 37 (s_istore 6) := ok_istore (by decide +kernel) rfl
theorem o100_38 : OKp l S b Lx xs dC dI cA 100 38 (s_iload 4) := ok_iload (by decide +kernel) rfl
theorem o100_39 : OKp l S b Lx xs dC dI cA 100 39 (s_invS 132 1 1) := ok_invS rfl rfl (by decide) (hXX 132 (by decide)) w_689 w_690 w_57 c_132 (by decide +kernel) (by decide +kernel) rfl
theorem o100_40 : OKp l S b Lx xs dC dI cA 100 40 (s_istore 4) := ok_istore (by decide +kernel) rfl
theorem o100_41 : OKp l S b Lx xs dC dI cA 100 41 (s_aload 0) := ok_aload_n (k9 := 0) (by decide +kernel) rfl rfl
theorem o100_42 : OKp l S b Lx xs dC dI cA 100 42 (s_getR (fun t => t == 11) 0) := ok_getR (by decide +kernel) rfl fd_RX11_10
theorem o100_43 : OKp l S b Lx xs dC dI cA 100 43 (s_getI (fun t => t == 10) 2) := ok_getI (by decide +kernel) rfl fd_RX11_184
theorem o100_44 : OKp l S b Lx xs dC dI cA 100 44 (s_iload 4) := ok_iload (by decide +kernel) rfl
theorem o100_45 : OKp l S b Lx xs dC dI cA 100 45 (s_invS 133 2 2) := ok_invS rfl rfl (by decide) (hXX 133 (by decide)) w_693 w_694 w_57 c_133 (by decide +kernel) (by decide +kernel) rfl
theorem o100_46 : OKp l S b Lx xs dC dI cA 100 46 (s_istore 7) := ok_istore (by decide +kernel) rfl
theorem o100_47 : OKp l S b Lx xs dC dI cA 100 47 (s_iload 3) := ok_iload_n (k9 := 3) (by decide +kernel) rfl rfl
theorem o100_48 : OKp l S b Lx xs dC dI cA 100 48 (s_aload 0) := ok_aload_n (k9 := 0) (by decide +kernel) rfl rfl
theorem o100_49 : OKp l S b Lx xs dC dI cA 100 49 (s_aload 0) := ok_aload_n (k9 := 0) (by decide +kernel) rfl rfl
theorem o100_50 : OKp l S b Lx xs dC dI cA 100 50 (s_getR (fun t => t == 11) 0) := ok_getR (by decide +kernel) rfl fd_RX11_10
theorem o100_51 : OKp l S b Lx xs dC dI cA 100 51 (s_iload 6) := ok_iload (by decide +kernel) rfl
theorem o100_52 : OKp l S b Lx xs dC dI cA 100 52 (s_invV (dv1 10 68 2) [] 1) := ok_invV (dv1_ok vc_RX11_106_10 rfl (by decide) (hXX 68 (by decide))) (by decide +kernel) rfl
theorem o100_53 : OKp l S b Lx xs dC dI cA 100 53 (s_iload 7) := ok_iload (by decide +kernel) rfl
theorem o100_54 : OKp l S b Lx xs dC dI cA 100 54 (s_invV (dv1 11 122 5) [] 2) := ok_invV (dv1_ok vc_RX11_196_11 rfl (by decide) (hXX 122 (by decide))) (by decide +kernel) rfl
theorem o100_55 : OKp l S b Lx xs dC dI cA 100 55 (s_bin g_iadd) := ok_iadd (by decide +kernel) rfl
theorem o100_56 : OKp l S b Lx xs dC dI cA 100 56 (s_istore 3) := ok_istore_n (k9 := 3) (by decide +kernel) rfl rfl
theorem o100_57 : OKp l S b Lx xs dC dI cA 100 57 (s_iinc 5 (1)) := ok_iinc (n := 1) (by decide +kernel) (by decide) rfl
theorem o100_58 : OKp l S b Lx xs dC dI cA 100 58 (s_goto 26) := ok_goto (off := -69) (by decide +kernel) (by decide +kernel)
theorem o100_59 : OKp l S b Lx xs dC dI cA 100 59 (s_iload 3) := ok_iload_n (k9 := 3) (by decide +kernel) rfl rfl
theorem o100_60 : OKp l S b Lx xs dC dI cA 100 60 (s_ret) := ok_ret (by decide +kernel) rfl
theorem a100_0 (hl9 : l.stackTraces = false) : sm_all (OKp l S b Lx xs dC dI cA 100) 0 sc_100_0 := ⟨o100_0, o100_1, o100_2, o100_3, o100_4, o100_5, o100_6, o100_7, o100_8, o100_9, o100_10, o100_11, o100_12, o100_13, o100_14, o100_15, o100_16, o100_17, o100_18, o100_19, o100_20, o100_21, o100_22, o100_23, o100_24, o100_25, o100_26, o100_27, o100_28, o100_29, o100_30, o100_31, o100_32, o100_33, o100_34, o100_35, o100_36, o100_37, o100_38, o100_39, o100_40, o100_41, o100_42, o100_43, o100_44, o100_45, o100_46, o100_47, o100_48, o100_49, o100_50, o100_51, o100_52, o100_53, o100_54, o100_55, o100_56, o100_57, o100_58, o100_59, trivial⟩
theorem a100_1 (hl9 : l.stackTraces = false) : sm_all (OKp l S b Lx xs dC dI cA 100) 60 sc_100_1 := ⟨o100_60, trivial⟩
theorem a100 (hl9 : l.stackTraces = false) : sm_all (OKp l S b Lx xs dC dI cA 100) 0 sc_100 := sm_all_app _ _ _ (a100_0 hl9) (a100_1 hl9)
theorem o101_0 : OKp l S b Lx xs dC dI cA 101 0 (s_aload 0) := ok_aload_n (k9 := 0) (by decide +kernel) rfl rfl
theorem o101_1 : OKp l S b Lx xs dC dI cA 101 1 (s_iload 1) := ok_iload_n (k9 := 1) (by decide +kernel) rfl rfl
theorem o101_2 : OKp l S b Lx xs dC dI cA 101 2 (s_invV (dv1 11 113 2) [] 1) := ok_invV (dv1_ok vc_RX11_46_11 rfl (by decide) (hXX 113 (by decide))) (by decide +kernel) rfl
theorem o101_3 : OKp l S b Lx xs dC dI cA 101 3 (s_astore 2) := ok_astore_n (k9 := 2) (by decide +kernel) rfl rfl
theorem o101_4 : OKp l S b Lx xs dC dI cA 101 4 (s_aload 2) := ok_aload_n (k9 := 2) (by decide +kernel) rfl rfl
theorem o101_5 : OKp l S b Lx xs dC dI cA 101 5 (s_invS 114 1 1) := ok_invS rfl rfl (by decide) (hXX 114 (by decide)) w_205 w_206 w_57 c_114 (by decide +kernel) (by decide +kernel) rfl
theorem o101_6 : OKp l S b Lx xs dC dI cA 101 6 (s_istore 3) := ok_istore_n (k9 := 3) (by decide +kernel) rfl rfl
theorem o101_7 : OKp l S b Lx xs dC dI cA 101 7 (s_aload 2) := ok_aload_n (k9 := 2) (by decide +kernel) rfl rfl
theorem o101_8 : OKp l S b Lx xs dC dI cA 101 8 (s_ifnull 11) := ok_ifnull (off := 7) (by decide +kernel) (by decide +kernel) rfl
theorem o101_9 : OKp l S b Lx xs dC dI cA 101 9 (s_iload 3) := ok_iload_n (k9 := 3) (by decide +kernel) rfl rfl
theorem o101_10 : OKp l S b Lx xs dC dI cA 101 10 (s_if (fun x => x = 0) 13) := ok_if_eq (off := 5) (by decide +kernel) (by decide +kernel) rfl
theorem o101_11 : OKp l S b Lx xs dC dI cA 101 11 (s_iload 3) := ok_iload_n (k9 := 3) (by decide +kernel) rfl rfl
theorem o101_12 : OKp l S b Lx xs dC dI cA 101 12 (s_ret) := ok_ret (by decide +kernel) rfl
theorem o101_13 : OKp l S b Lx xs dC dI cA 101 13 (s_aload 0) := ok_aload_n (k9 := 0) (by decide +kernel) rfl rfl
theorem o101_14 : OKp l S b Lx xs dC dI cA 101 14 (s_invV (dv1 11 121 3) [] 0) := ok_invV (dv1_ok vc_RX11_187_11 rfl (by decide) (hXX 121 (by decide))) (by decide +kernel) rfl
theorem o101_15 : OKp l S b Lx xs dC dI cA 101 15 (s_const (0)) := ok_iconst (n := 0) (by decide +kernel) (by decide) rfl
theorem o101_16 : OKp l S b Lx xs dC dI cA 101 16 (s_istore 4) := ok_istore (by decide +kernel) rfl
theorem o101_17 : OKp l S b Lx xs dC dI cA 101 17 (s_iload 4) := ok_iload (by decide +kernel) rfl
theorem o101_18 : OKp l S b Lx xs dC dI cA 101 18 (s_aload 2) := ok_aload_n (k9 := 2) (by decide +kernel) rfl rfl
theorem o101_19 : OKp l S b Lx xs dC dI cA 101 19 (s_getI (fun t => t == 8) 3) := ok_getI (by decide +kernel) rfl fd_RX11_61
theorem o101_20 : OKp l S b Lx xs dC dI cA 101 20 (s_icmp (fun x y => y ≤ x) 71) := ok_icmp_ge (off := 97) (by decide +kernel) (by decide +kernel) rfl
theorem o101_21 : OKp l S b Lx xs dC dI cA 101 21 (s_aload 2) := ok_aload_n (k9 := 2) (by decide +kernel) rfl rfl
theorem o101_22 : OKp l S b Lx xs dC dI cA 101 22 (s_getI (fun t => t == 8) 3) := ok_getI (by decide +kernel) rfl fd_RX11_61
theorem o101_23 : OKp l S b Lx xs dC dI cA 101 23 (s_iload 4) := ok_iload (by decide +kernel) rfl
theorem o101_24 : OKp l S b Lx xs dC dI cA 101 24 (s_bin g_isub) := ok_isub (by decide +kernel) rfl
theorem o101_25 : OKp l S b Lx xs dC dI cA 101 25 (s_const (3)) := ok_iconst (n := 3) (by decide +kernel) (by decide) rfl
theorem o101_26 : OKp l S b Lx xs dC dI cA 101 26 (s_icmp (fun x y => y ≤ x) 29) := ok_icmp_ge (off := 6) (by decide +kernel) (by decide +kernel) rfl
theorem o101_27 : OKp l S b Lx xs dC dI cA 101 27 (s_iload 4) := ok_iload (by decide +kernel) rfl
theorem o101_28 : OKp l S b Lx xs dC dI cA 101 28 (s_ret) := ok_ret (by decide +kernel) rfl
theorem o101_29 : OKp l S b Lx xs dC dI cA 101 29 (s_aload 0) := ok_aload_n (k9 := 0) (by decide +kernel) rfl rfl
theorem o101_30 : OKp l S b Lx xs dC dI cA 101 30 (s_getR (fun t => t == 11) 0) := ok_getR (by decide +kernel) rfl fd_RX11_10
theorem o101_31 : OKp l S b Lx xs dC dI cA 101 31 (s_aload 2) := ok_aload_n (k9 := 2) (by decide +kernel) rfl rfl
theorem o101_32 : OKp l S b Lx xs dC dI cA 101 32 (s_iload 4) := ok_iload (by decide +kernel) rfl
theorem o101_33 : OKp l S b Lx xs dC dI cA 101 33 (s_invV (dv1 8 57 2) [] 1) := ok_invV (dv1_ok vc_RX11_65_8 rfl (by decide) (hXX 57 (by decide))) (by decide +kernel) rfl
theorem o101_34 : OKp l S b Lx xs dC dI cA 101 34 (s_invV (dv1 10 68 2) [] 1) := ok_invV (dv1_ok vc_RX11_106_10 rfl (by decide) (hXX 68 (by decide))) (by decide +kernel) rfl
theorem o101_35 : OKp l S b Lx xs dC dI cA 101 35 (s_astore 5) := ok_astore (by decide +kernel) rfl
theorem o101_36 : OKp l S b Lx xs dC dI cA 101 36 (s_aload 2) := ok_aload_n (k9 := 2) (by decide +kernel) rfl rfl
theorem o101_37 : OKp l S b Lx xs dC dI cA 101 37 (s_iload 4) := ok_iload (by decide +kernel) rfl
theorem o101_38 : OKp l S b Lx xs dC dI cA 101 38 (s_const (1)) := ok_iconst (n := 1) (by decide +kernel) (by decide) rfl
theorem o101_39 : OKp l S b Lx xs dC dI cA 101 39 (s_bin g_iadd) := ok_iadd (by decide +kernel) rfl
theorem o101_40 : OKp l S b Lx xs dC dI cA 101 40 (s_invV (dv1 8 57 2) [] 1) := ok_invV (dv1_ok vc_RX11_65_8 rfl (by decide) (hXX 57 (by decide))) (by decide +kernel) rfl
theorem o101_41 : OKp l S b Lx xs dC dI cA 101 41 (s_istore 6) := ok_istore (by decide +kernel) rfl
theorem o101_42 : OKp l S b Lx xs dC dI cA 101 42 (s_aload 5) := ok_aload (by decide +kernel) rfl
theorem o101_43 : OKp l S b Lx xs dC dI cA 101 43 (s_ifnonnull 46) := ok_ifnonnull (off := 6) (by decide +kernel) (by decide +kernel) rfl
theorem o101_44 : OKp l S b Lx xs dC dI cA 101 44 (s_iload 4) := ok_iload (by decide +kernel) rfl
theorem o101_45 : OKp l S b Lx xs dC dI cA 101 45 (s_ret) := ok_ret (by decide +kernel) rfl
theorem o101_46 : OKp l S b Lx xs dC dI cA 101 46 (s_aload 0) := ok_aload_n (k9 := 0) (by decide +kernel) rfl rfl
theorem o101_47 : OKp l S b Lx xs dC dI cA 101 47 (s_getR (fun t => t == 11) 0) := ok_getR (by decide +kernel) rfl fd_RX11_10
theorem o101_48 : OKp l S b Lx xs dC dI cA 101 48 (s_iload 6) := ok_iload (by decide +kernel) rfl
theorem o101_49 : OKp l S b Lx xs dC dI cA 101 49 (s_invV (dv1 10 67 2) [] 1) := ok_invV (dv1_ok vc_RX11_76_10 rfl (by decide) (hXX 67 (by decide))) (by decide +kernel) rfl
theorem o101_50 : OKp l S b Lx xs dC dI cA 101 50 (s_ifnonnull 55) := ok_ifnonnull (off := 8) (by decide +kernel) (by decide +kernel) rfl
theorem o101_51 : OKp l S b Lx xs dC dI cA 101 51 (s_iload 4) := ok_iload (by decide +kernel) rfl
theorem o101_52 : OKp l S b Lx xs dC dI cA 101 52 (s_const (1)) := ok_iconst (n := 1) (by decide +kernel) (by decide) rfl
theorem o101_53 : OKp l S b Lx xs dC dI cA 101 53 (s_bin g_iadd) := ok_iadd (by decide +kernel) rfl
theorem o101_54 : OKp l S b Lx xs dC dI cA 101 54 (s_ret) := ok_ret (by decide +kernel) rfl
theorem o101_55 : OKp l S b Lx xs dC dI cA 101 55 (s_aload 0) := ok_aload_n (k9 := 0) (by decide +kernel) rfl rfl
theorem o101_56 : OKp l S b Lx xs dC dI cA 101 56 (s_aload 5) := ok_aload (by decide +kernel) rfl
theorem o101_57 : OKp l S b Lx xs dC dI cA 101 57 (s_iload 6) := ok_iload (by decide +kernel) rfl
theorem o101_58 : OKp l S b Lx xs dC dI cA 101 58 (s_invV (dv1 11 122 5) [] 2) := ok_invV (dv1_ok vc_RX11_196_11 rfl (by decide) (hXX 122 (by decide))) (by decide +kernel) rfl
theorem o101_59 : OKp l S b Lx xs dC dI cA 101 59 (s_aload 2) := ok_aload_n (k9 := 2) (by decide +kernel) rfl rfl
theorem o101_60 : OKp l S b Lx xs dC dI cA 101 60 (s_iload 4) := ok_iload (by decide +kernel) rfl
theorem o101_61 : OKp l S b Lx xs dC dI cA 101 61 (s_const (2)) := ok_iconst (n := 2) (by decide +kernel) (by decide) rfl
theorem o101_62 : OKp l S b Lx xs dC dI cA 101 62 (s_bin g_iadd) := ok_iadd (by decide +kernel) rfl
theorem o101_63 : OKp l S b Lx xs dC dI cA 101 63 (s_invV (dv1 8 57 2) [] 1) := ok_invV (dv1_ok vc_RX11_65_8 rfl (by decide) (hXX 57 (by decide))) (by decide +kernel) rfl
theorem o101_64 : OKp l S b Lx xs dC dI cA 101 64 (s_icmp (fun x y => x = y) 69) := ok_icmp_eq (off := 8) (by decide +kernel) (by decide +kernel) rfl
theorem o101_65 : OKp l S b Lx xs dC dI cA 101 65 (s_iload 4) := ok_iload (by decide +kernel) rfl
theorem o101_66 : OKp l S b Lx xs dC dI cA 101 66 (s_const (2)) := ok_iconst (n := 2) (by decide +kernel) (by decide) rfl
theorem o101_67 : OKp l S b Lx xs dC dI cA 101 67 (s_bin g_iadd) := ok_iadd (by decide +kernel) rfl
theorem o101_68 : OKp l S b Lx xs dC dI cA 101 68 (s_ret) := ok_ret (by decide +kernel) rfl
theorem o101_69 : OKp l S b Lx xs dC dI cA 101 69 (s_iinc 4 (3)) := ok_iinc (n := 3) (by decide +kernel) (by decide) rfl
theorem o101_70 : OKp l S b Lx xs dC dI cA 101 70 (s_goto 17) := ok_goto (off := -100) (by decide +kernel) (by decide +kernel)
theorem o101_71 : OKp l S b Lx xs dC dI cA 101 71 (s_const (-4)) := ok_bipush (n := -4) (by decide +kernel) (by decide) rfl
theorem o101_72 : OKp l S b Lx xs dC dI cA 101 72 (s_ret) := ok_ret (by decide +kernel) rfl
theorem a101_0 (hl9 : l.stackTraces = false) : sm_all (OKp l S b Lx xs dC dI cA 101) 0 sc_101_0 := ⟨o101_0, o101_1, o101_2, o101_3, o101_4, o101_5, o101_6, o101_7, o101_8, o101_9, o101_10, o101_11, o101_12, o101_13, o101_14, o101_15, o101_16, o101_17, o101_18, o101_19, o101_20, o101_21, o101_22, o101_23, o101_24, o101_25, o101_26, o101_27, o101_28, o101_29, o101_30, o101_31, o101_32, o101_33, o101_34, o101_35, o101_36, o101_37, o101_38, o101_39, o101_40, o101_41, o101_42, o101_43, o101_44, o101_45, o101_46, o101_47, o101_48, o101_49, o101_50, o101_51, o101_52, o101_53, o101_54, o101_55, o101_56, o101_57, o101_58, o101_59, trivial⟩
theorem a101_1 (hl9 : l.stackTraces = false) : sm_all (OKp l S b Lx xs dC dI cA 101) 60 sc_101_1 := ⟨o101_60, o101_61, o101_62, o101_63, o101_64, o101_65, o101_66, o101_67, o101_68, o101_69, o101_70, o101_71, o101_72, trivial⟩
theorem a101 (hl9 : l.stackTraces = false) : sm_all (OKp l S b Lx xs dC dI cA 101) 0 sc_101 := sm_all_app _ _ _ (a101_0 hl9) (a101_1 hl9)
theorem o102_0 : OKp l S b Lx xs dC dI cA 102 0 (s_aload 0) := ok_aload_n (k9 := 0) (by decide +kernel) rfl rfl
theorem o102_1 : OKp l S b Lx xs dC dI cA 102 1 (s_getR (fun t => t == 11) 2) := ok_getR (by decide +kernel) rfl fd_RX11_19
theorem o102_2 : OKp l S b Lx xs dC dI cA 102 2 (s_aload 0) := ok_aload_n (k9 := 0) (by decide +kernel) rfl rfl
theorem o102_3 : OKp l S b Lx xs dC dI cA 102 3 (s_getR (fun t => t == 11) 0) := ok_getR (by decide +kernel) rfl fd_RX11_10
theorem o102_4 : OKp l S b Lx xs dC dI cA 102 4 (s_invV (dv1 10 66 3) [] 1) := ok_invV (dv1_ok vc_RX11_57_10 rfl (by decide) (hXX 66 (by decide))) (by decide +kernel) rfl
theorem o102_5 : OKp l S b Lx xs dC dI cA 102 5 (s_aload 0) := ok_aload_n (k9 := 0) (by decide +kernel) rfl rfl
theorem o102_6 : OKp l S b Lx xs dC dI cA 102 6 (s_const (1)) := ok_iconst (n := 1) (by decide +kernel) (by decide) rfl
theorem o102_7 : OKp l S b Lx xs dC dI cA 102 7 (s_putZ 11 3) := ok_putZ (by decide +kernel) rfl fp_RX11_22 rfl
theorem o102_8 : OKp l S b Lx xs dC dI cA 102 8 (s_aload 0) := ok_aload_n (k9 := 0) (by decide +kernel) rfl rfl
theorem o102_9 : OKp l S b Lx xs dC dI cA 102 9 (s_getR (fun t => t == 11) 0) := ok_getR (by decide +kernel) rfl fd_RX11_10
theorem o102_10 : OKp l S b Lx xs dC dI cA 102 10 (s_getI (fun t => t == 10) 4) := ok_getI (by decide +kernel) rfl fd_RX11_203
theorem o102_11 : OKp l S b Lx xs dC dI cA 102 11 (s_ret) := ok_ret (by decide +kernel) rfl
theorem a102 (hl9 : l.stackTraces = false) : sm_all (OKp l S b Lx xs dC dI cA 102) 0 sc_102 := ⟨o102_0, o102_1, o102_2, o102_3, o102_4, o102_5, o102_6, o102_7, o102_8, o102_9, o102_10, o102_11, trivial⟩
theorem o103_0 : OKp l S b Lx xs dC dI cA 103 0 (s_aload 0) := ok_aload_n (k9 := 0) (by decide +kernel) rfl rfl
theorem o103_1 : OKp l S b Lx xs dC dI cA 103 1 (s_getI (fun t => t == 11) 3) := ok_getI (by decide +kernel) rfl fd_RX11_22
theorem o103_2 : OKp l S b Lx xs dC dI cA 103 2 (s_if (fun x => x ≠ 0) 5) := ok_if_ne (off := 6) (by decide +kernel) (by decide +kernel) rfl
theorem o103_3 : OKp l S b Lx xs dC dI cA 103 3 (s_const (-3)) := ok_bipush (n := -3) (by decide +kernel) (by decide) rfl
theorem o103_4 : OKp l S b Lx xs dC dI cA 103 4 (s_ret) := ok_ret (by decide +kernel) rfl
theorem o103_5 : OKp l S b Lx xs dC dI cA 103 5 (s_aload 0) := ok_aload_n (k9 := 0) (by decide +kernel) rfl rfl
theorem o103_6 : OKp l S b Lx xs dC dI cA 103 6 (s_getR (fun t => t == 11) 0) := ok_getR (by decide +kernel) rfl fd_RX11_10
theorem o103_7 : OKp l S b Lx xs dC dI cA 103 7 (s_aload 0) := ok_aload_n (k9 := 0) (by decide +kernel) rfl rfl
theorem o103_8 : OKp l S b Lx xs dC dI cA 103 8 (s_getR (fun t => t == 11) 2) := ok_getR (by decide +kernel) rfl fd_RX11_19
theorem o103_9 : OKp l S b Lx xs dC dI cA 103 9 (s_invV (dv1 10 66 3) [] 1) := ok_invV (dv1_ok vc_RX11_57_10 rfl (by decide) (hXX 66 (by decide))) (by decide +kernel) rfl
theorem o103_10 : OKp l S b Lx xs dC dI cA 103 10 (s_aload 0) := ok_aload_n (k9 := 0) (by decide +kernel) rfl rfl
theorem o103_11 : OKp l S b Lx xs dC dI cA 103 11 (s_getR (fun t => t == 11) 0) := ok_getR (by decide +kernel) rfl fd_RX11_10
theorem o103_12 : OKp l S b Lx xs dC dI cA 103 12 (s_getI (fun t => t == 10) 4) := ok_getI (by decide +kernel) rfl fd_RX11_203
theorem o103_13 : OKp l S b Lx xs dC dI cA 103 13 (s_ret) := ok_ret (by decide +kernel) rfl
theorem a103 (hl9 : l.stackTraces = false) : sm_all (OKp l S b Lx xs dC dI cA 103) 0 sc_103 := ⟨o103_0, o103_1, o103_2, o103_3, o103_4, o103_5, o103_6, o103_7, o103_8, o103_9, o103_10, o103_11, o103_12, o103_13, trivial⟩
theorem o104_0 : OKp l S b Lx xs dC dI cA 104 0 (s_iload 1) := ok_iload_n (k9 := 1) (by decide +kernel) rfl rfl
theorem o104_1 : OKp l S b Lx xs dC dI cA 104 1 (s_sw [(0, 2), (1, 6), (2, 10), (3, 14), (4, 18)] 26) := ok_table (dflt := 83) (lo := 0) (hi := 4) (offs := #[35, 43, 51, 59, 67]) (len := 35) (by decide +kernel) (by decide +kernel) (by decide +kernel) (by decide +kernel) (by decide +kernel)
theorem o104_2 : OKp l S b Lx xs dC dI cA 104 2 (s_aload 0) := ok_aload_n (k9 := 0) (by decide +kernel) rfl rfl
theorem o104_3 : OKp l S b Lx xs dC dI cA 104 3 (s_getR (fun t => t == 11) 0) := ok_getR (by decide +kernel) rfl fd_RX11_10
theorem o104_4 : OKp l S b Lx xs dC dI cA 104 4 (s_getI (fun t => t == 10) 2) := ok_getI (by decide +kernel) rfl fd_RX11_184
theorem o104_5 : OKp l S b Lx xs dC dI cA 104 5 (s_ret) := ok_ret (by decide +kernel) rfl
theorem o104_6 : OKp l S b Lx xs dC dI cA 104 6 (s_aload 0) := ok_aload_n (k9 := 0) (by decide +kernel) rfl rfl
theorem o104_7 : OKp l S b Lx xs dC dI cA 104 7 (s_getR (fun t => t == 11) 0) := ok_getR (by decide +kernel) rfl fd_RX11_10
theorem o104_8 : OKp l S b Lx xs dC dI cA 104 8 (s_getI (fun t => t == 10) 3) := ok_getI (by decide +kernel) rfl fd_RX11_181
theorem o104_9 : OKp l S b Lx xs dC dI cA 104 9 (s_ret) := ok_ret (by decide +kernel) rfl
theorem o104_10 : OKp l S b Lx xs dC dI cA 104 10 (s_aload 0) := ok_aload_n (k9 := 0) (by decide +kernel) rfl rfl
theorem o104_11 : OKp l S b Lx xs dC dI cA 104 11 (s_getR (fun t => t == 11) 0) := ok_getR (by decide +kernel) rfl fd_RX11_10
theorem o104_12 : OKp l S b Lx xs dC dI cA 104 12 (s_getI (fun t => t == 10) 4) := ok_getI (by decide +kernel) rfl fd_RX11_203
theorem o104_13 : OKp l S b Lx xs dC dI cA 104 13 (s_ret) := ok_ret (by decide +kernel) rfl
theorem o104_14 : OKp l S b Lx xs dC dI cA 104 14 (s_aload 0) := ok_aload_n (k9 := 0) (by decide +kernel) rfl rfl
theorem o104_15 : OKp l S b Lx xs dC dI cA 104 15 (s_getR (fun t => t == 11) 0) := ok_getR (by decide +kernel) rfl fd_RX11_10
theorem o104_16 : OKp l S b Lx xs dC dI cA 104 16 (s_invV (dv1 10 75 6) [] 0) := ok_invV (dv1_ok vc_RX11_206_10 rfl (by decide) (hXX 75 (by decide))) (by decide +kernel) rfl
theorem o104_17 : OKp l S b Lx xs dC dI cA 104 17 (s_ret) := ok_ret (by decide +kernel) rfl
theorem o104_18 : OKp l S b Lx xs dC dI cA 104 18 (s_aload 0) := ok_aload_n (k9 := 0) (by decide +kernel) rfl rfl
theorem o104_19 : OKp l S b Lx xs dC dI cA 104 19 (s_getR (fun t => t == 11) 0) := ok_getR (by decide +kernel) rfl fd_RX11_10
theorem o104_20 : OKp l S b Lx xs dC dI cA 104 20 (s_invV (dv1 10 76 6) [] 0) := ok_invV (dv1_ok vc_RX11_146_10 rfl (by decide) (hXX 76 (by decide))) (by decide +kernel) rfl
theorem o104_21 : OKp l S b Lx xs dC dI cA 104 21 (s_aload 0) := ok_aload_n (k9 := 0) (by decide +kernel) rfl rfl
theorem o104_22 : OKp l S b Lx xs dC dI cA 104 22 (s_getR (fun t => t == 11) 0) := ok_getR (by decide +kernel) rfl fd_RX11_10
theorem o104_23 : OKp l S b Lx xs dC dI cA 104 23 (s_invV (dv1 10 75 6) [] 0) := ok_invV (dv1_ok vc_RX11_206_10 rfl (by decide) (hXX 75 (by decide))) (by decide +kernel) rfl
theorem o104_24 : OKp l S b Lx xs dC dI cA 104 24 (s_bin g_isub) := ok_isub (by decide +kernel) rfl
theorem o104_25 : OKp l S b Lx xs dC dI cA 104 25 (s_ret) := ok_ret (by decide +kernel) rfl
theorem o104_26 : OKp l S b Lx xs dC dI cA 104 26 (s_const (-1)) := ok_iconst (n := -1) (by decide +kernel) (by decide) rfl
theorem o104_27 : OKp l S b Lx xs dC dI cA 104 27 (s_ret) := ok_ret (by decide +kernel) rfl
theorem a104 (hl9 : l.stackTraces = false) : sm_all (OKp l S b Lx xs dC dI cA 104) 0 sc_104 := ⟨o104_0, o104_1, o104_2, o104_3, o104_4, o104_5, o104_6, o104_7, o104_8, o104_9, o104_10, o104_11, o104_12, o104_13, o104_14, o104_15, o104_16, o104_17, o104_18, o104_19, o104_20, o104_21, o104_22, o104_23, o104_24, o104_25, o104_26, o104_27, trivial⟩
theorem o105_0 : OKp l S b Lx xs dC dI cA 105 0 (s_aload 0) := ok_aload_n (k9 := 0) (by decide +kernel) rfl rfl
theorem o105_1 : OKp l S b Lx xs dC dI cA 105 1 (s_iload 1) := ok_iload_n (k9 := 1) (by decide +kernel) rfl rfl
theorem o105_2 : OKp l S b Lx xs dC dI cA 105 2 (s_invV (dv1 11 113 2) [] 1) := ok_invV (dv1_ok vc_RX11_46_11 rfl (by decide) (hXX 113 (by decide))) (by decide +kernel) rfl
theorem o105_3 : OKp l S b Lx xs dC dI cA 105 3 (s_astore 5) := ok_astore (by decide +kernel) rfl
theorem o105_4 : OKp l S b Lx xs dC dI cA 105 4 (s_aload 5) := ok_aload (by decide +kernel) rfl
theorem o105_5 : OKp l S b Lx xs dC dI cA 105 5 (s_ifnull 11) := ok_ifnull (off := 12) (by decide +kernel) (by decide +kernel) rfl
theorem o105_6 : OKp l S b Lx xs dC dI cA 105 6 (s_iload 2) := ok_iload_n (k9 := 2) (by decide +kernel) rfl rfl
theorem o105_7 : OKp l S b Lx xs dC dI cA 105 7 (s_if (fun x => x < 0) 11) := ok_if_lt (off := 8) (by decide +kernel) (by decide +kernel) rfl
theorem o105_8 : OKp l S b Lx xs dC dI cA 105 8 (s_iload 2) := ok_iload_n (k9 := 2) (by decide +kernel) rfl rfl
theorem o105_9 : OKp l S b Lx xs dC dI cA 105 9 (s_const (1)) := ok_iconst (n := 1) (by decide +kernel) (by decide) rfl
theorem o105_10 : OKp l S b Lx xs dC dI cA 105 10 (s_icmp (fun x y => x ≤ y) 13) := ok_icmp_le (off := 5) (by decide +kernel) (by decide +kernel) rfl
theorem o105_11 : OKp l S b Lx xs dC dI cA 105 11 (s_const (-1)) := ok_iconst (n := -1) (by decide +kernel) (by decide) rfl
theorem o105_12 : OKp l S b Lx xs dC dI cA 105 12 (s_ret) := ok_ret (by decide +kernel) rfl
theorem o105_13 : OKp l S b Lx xs dC dI cA 105 13 (s_iload 2) := ok_iload_n (k9 := 2) (by decide +kernel) rfl rfl
theorem o105_14 : OKp l S b Lx xs dC dI cA 105 14 (s_const (1)) := ok_iconst (n := 1) (by decide +kernel) (by decide) rfl
theorem o105_15 : OKp l S b Lx xs dC dI cA 105 15 (s_icmp (fun x y => x ≠ y) 20) := ok_icmp_ne (off := 12) (by decide +kernel) (by decide +kernel) rfl
theorem o105_16 : OKp l S b Lx xs dC dI cA 105 16 (s_iload 3) := ok_iload_n (k9 := 3) (by decide +kernel) rfl rfl
theorem o105_17 : OKp l S b Lx xs dC dI cA 105 17 (s_iload 4) := ok_iload (by decide +kernel) rfl
theorem o105_18 : OKp l S b Lx xs dC dI cA 105 18 (s_invS 136 2 2) := ok_invS rfl rfl (by decide) (hXX 136 (by decide)) w_648 w_263 w_57 c_136 (by decide +kernel) (by decide +kernel) rfl
theorem o105_19 : OKp l S b Lx xs dC dI cA 105 19 (s_goto 21) := ok_goto (off := 4) (by decide +kernel) (by decide +kernel)
theorem o105_20 : OKp l S b Lx xs dC dI cA 105 20 (s_null) := ok_null (by decide +kernel) rfl
theorem o105_21 : OKp l S b Lx xs dC dI cA 105 21 (s_astore 6) := ok_astore (by decide +kernel) rfl
theorem o105_22 : OKp l S b Lx xs dC dI cA 105 22 (s_iload 2) := ok_iload_n (k9 := 2) (by decide +kernel) rfl rfl
theorem o105_23 : OKp l S b Lx xs dC dI cA 105 23 (s_const (1)) := ok_iconst (n := 1) (by decide +kernel) (by decide) rfl
theorem o105_24 : OKp l S b Lx xs dC dI cA 105 24 (s_icmp (fun x y => x ≠ y) 29) := ok_icmp_ne (off := 10) (by decide +kernel) (by decide +kernel) rfl
theorem o105_25 : OKp l S b Lx xs dC dI cA 105 25 (s_aload 6) := ok_aload (by decide +kernel) rfl
theorem o105_26 : OKp l S b Lx xs dC dI cA 105 26 (s_ifnonnull 29) := ok_ifnonnull (off := 5) (by decide +kernel) (by decide +kernel) rfl
theorem o105_27 : OKp l S b Lx xs dC dI cA 105 27 (s_const (-1)) := ok_iconst (n := -1) (by decide +kernel) (by decide) rfl
theorem o105_28 : OKp l S b Lx xs dC dI cA 105 28 (s_ret) := ok_ret (by decide +kernel) rfl
theorem o105_29 : OKp l S b Lx xs dC dI cA 105 29 (s_aload 5) := ok_aload (by decide +kernel) rfl
theorem o105_30 : OKp l S b Lx xs dC dI cA 105 30 (s_aload 6) := ok_aload (by decide +kernel) rfl
theorem o105_31 : OKp l S b Lx xs dC dI cA 105 31 (s_invV (dv1 8 55 2) [] 1) := ok_invV (dv1_ok vc_RX11_209_8 rfl (by decide) (hXX 55 (by decide))) (by decide +kernel) rfl
theorem o105_32 : OKp l S b Lx xs dC dI cA 105 32 (s_const (0)) := ok_iconst (n := 0) (by decide +kernel) (by decide) rfl
theorem o105_33 : OKp l S b Lx xs dC dI cA 105 33 (s_ret) := ok_ret (by decide +kernel) rfl
theorem a105 (hl9 : l.stackTraces = false) : sm_all (OKp l S b Lx xs dC dI cA 105) 0 sc_105 := ⟨o105_0, o105_1, o105_2, o105_3, o105_4, o105_5, o105_6, o105_7, o105_8, o105_9, o105_10, o105_11, o105_12, o105_13, o105_14, o105_15, o105_16, o105_17, o105_18, o105_19, o105_20, o105_21, o105_22, o105_23, o105_24, o105_25, o105_26, o105_27, o105_28, o105_29, o105_30, o105_31, o105_32, o105_33, trivial⟩
theorem o106_0 : OKp l S b Lx xs dC dI cA 106 0 (s_aload 0) := ok_aload_n (k9 := 0) (by decide +kernel) rfl rfl
theorem o106_1 : OKp l S b Lx xs dC dI cA 106 1 (s_iload 1) := ok_iload_n (k9 := 1) (by decide +kernel) rfl rfl
theorem o106_2 : OKp l S b Lx xs dC dI cA 106 2 (s_invV (dv1 11 113 2) [] 1) := ok_invV (dv1_ok vc_RX11_46_11 rfl (by decide) (hXX 113 (by decide))) (by decide +kernel) rfl
theorem o106_3 : OKp l S b Lx xs dC dI cA 106 3 (s_astore 4) := ok_astore (by decide +kernel) rfl
theorem o106_4 : OKp l S b Lx xs dC dI cA 106 4 (s_aload 4) := ok_aload (by decide +kernel) rfl
theorem o106_5 : OKp l S b Lx xs dC dI cA 106 5 (s_ifnull 14) := ok_ifnull (off := 18) (by decide +kernel) (by decide +kernel) rfl
theorem o106_6 : OKp l S b Lx xs dC dI cA 106 6 (s_iload 2) := ok_iload_n (k9 := 2) (by decide +kernel) rfl rfl
theorem o106_7 : OKp l S b Lx xs dC dI cA 106 7 (s_if (fun x => x < 0) 14) := ok_if_lt (off := 14) (by decide +kernel) (by decide +kernel) rfl
theorem o106_8 : OKp l S b Lx xs dC dI cA 106 8 (s_iload 2) := ok_iload_n (k9 := 2) (by decide +kernel) rfl rfl
theorem o106_9 : OKp l S b Lx xs dC dI cA 106 9 (s_const (2)) := ok_iconst (n := 2) (by decide +kernel) (by decide) rfl
theorem o106_10 : OKp l S b Lx xs dC dI cA 106 10 (s_icmp (fun x y => y < x) 14) := ok_icmp_gt (off := 9) (by decide +kernel) (by decide +kernel) rfl
theorem o106_11 : OKp l S b Lx xs dC dI cA 106 11 (s_iload 3) := ok_iload_n (k9 := 3) (by decide +kernel) rfl rfl
theorem o106_12 : OKp l S b Lx xs dC dI cA 106 12 (s_const (100)) := ok_bipush (n := 100) (by decide +kernel) (by decide) rfl
theorem o106_13 : OKp l S b Lx xs dC dI cA 106 13 (s_icmp (fun x y => x ≤ y) 16) := ok_icmp_le (off := 5) (by decide +kernel) (by decide +kernel) rfl
theorem o106_14 : OKp l S b Lx xs dC dI cA 106 14 (s_const (-1)) := ok_iconst (n := -1) (by decide +kernel) (by decide) rfl
theorem o106_15 : OKp l S b Lx xs dC dI cA 106 15 (s_ret) := ok_ret (by decide +kernel) rfl
theorem o106_16 : OKp l S b Lx xs dC dI cA 106 16 (s_iload 3) := ok_iload_n (k9 := 3) (by decide +kernel) rfl rfl
theorem o106_17 : OKp l S b Lx xs dC dI cA 106 17 (s_if (fun x => 0 ≤ x) 20) := ok_if_ge (off := 6) (by decide +kernel) (by decide +kernel) rfl
theorem o106_18 : OKp l S b Lx xs dC dI cA 106 18 (s_const (-14)) := ok_bipush (n := -14) (by decide +kernel) (by decide) rfl
theorem o106_19 : OKp l S b Lx xs dC dI cA 106 19 (s_ret) := ok_ret (by decide +kernel) rfl
theorem o106_20 : OKp l S b Lx xs dC dI cA 106 20 (s_aload 4) := ok_aload (by decide +kernel) rfl
theorem o106_21 : OKp l S b Lx xs dC dI cA 106 21 (s_iload 2) := ok_iload_n (k9 := 2) (by decide +kernel) rfl rfl
theorem o106_22 : OKp l S b Lx xs dC dI cA 106 22 (s_iload 3) := ok_iload_n (k9 := 3) (by decide +kernel) rfl rfl
theorem o106_23 : OKp l S b Lx xs dC dI cA 106 23 (s_invV (dv1 8 56 4) [] 2) := ok_invV (dv1_ok vc_RX11_213_8 rfl (by decide) (hXX 56 (by decide))) (by decide +kernel) rfl
theorem o106_24 : OKp l S b Lx xs dC dI cA 106 24 (s_const (0)) := ok_iconst (n := 0) (by decide +kernel) (by decide) rfl
theorem o106_25 : OKp l S b Lx xs dC dI cA 106 25 (s_ret) := ok_ret (by decide +kernel) rfl
theorem a106 (hl9 : l.stackTraces = false) : sm_all (OKp l S b Lx xs dC dI cA 106) 0 sc_106 := ⟨o106_0, o106_1, o106_2, o106_3, o106_4, o106_5, o106_6, o106_7, o106_8, o106_9, o106_10, o106_11, o106_12, o106_13, o106_14, o106_15, o106_16, o106_17, o106_18, o106_19, o106_20, o106_21, o106_22, o106_23, o106_24, o106_25, trivial⟩
theorem o107_0 : OKp l S b Lx xs dC dI cA 107 0 (s_aload 0) := ok_aload_n (k9 := 0) (by decide +kernel) rfl rfl
theorem o107_1 : OKp l S b Lx xs dC dI cA 107 1 (s_iload 1) := ok_iload_n (k9 := 1) (by decide +kernel) rfl rfl
theorem o107_2 : OKp l S b Lx xs dC dI cA 107 2 (s_invV (dv1 11 113 2) [] 1) := ok_invV (dv1_ok vc_RX11_46_11 rfl (by decide) (hXX 113 (by decide))) (by decide +kernel) rfl
theorem o107_3 : OKp l S b Lx xs dC dI cA 107 3 (s_astore 4) := ok_astore (by decide +kernel) rfl
theorem o107_4 : OKp l S b Lx xs dC dI cA 107 4 (s_aload 4) := ok_aload (by decide +kernel) rfl
theorem o107_5 : OKp l S b Lx xs dC dI cA 107 5 (s_invS 114 1 1) := ok_invS rfl rfl (by decide) (hXX 114 (by decide)) w_205 w_206 w_57 c_114 (by decide +kernel) (by decide +kernel) rfl
theorem o107_6 : OKp l S b Lx xs dC dI cA 107 6 (s_istore 5) := ok_istore (by decide +kernel) rfl
theorem o107_7 : OKp l S b Lx xs dC dI cA 107 7 (s_aload 4) := ok_aload (by decide +kernel) rfl
theorem o107_8 : OKp l S b Lx xs dC dI cA 107 8 (s_ifnull 11) := ok_ifnull (off := 8) (by decide +kernel) (by decide +kernel) rfl
theorem o107_9 : OKp l S b Lx xs dC dI cA 107 9 (s_iload 5) := ok_iload (by decide +kernel) rfl
theorem o107_10 : OKp l S b Lx xs dC dI cA 107 10 (s_if (fun x => x = 0) 13) := ok_if_eq (off := 6) (by decide +kernel) (by decide +kernel) rfl
theorem o107_11 : OKp l S b Lx xs dC dI cA 107 11 (s_iload 5) := ok_iload (by decide +kernel) rfl
theorem o107_12 : OKp l S b Lx xs dC dI cA 107 12 (s_ret) := ok_ret (by decide +kernel) rfl
theorem o107_13 : OKp l S b Lx xs dC dI cA 107 13 (s_aload 4) := ok_aload (by decide +kernel) rfl
theorem o107_14 : OKp l S b Lx xs dC dI cA 107 14 (s_iload 2) := ok_iload_n (k9 := 2) (by decide +kernel) rfl rfl
theorem o107_15 : OKp l S b Lx xs dC dI cA 107 15 (s_iload 3) := ok_iload_n (k9 := 3) (by decide +kernel) rfl rfl
theorem o107_16 : OKp l S b Lx xs dC dI cA 107 16 (s_invV (dv1 8 58 3) [] 2) := ok_invV (dv1_ok vc_RX11_217_8 rfl (by decide) (hXX 58 (by decide))) (by decide +kernel) rfl
theorem o107_17 : OKp l S b Lx xs dC dI cA 107 17 (s_if (fun x => x = 0) 20) := ok_if_eq (off := 7) (by decide +kernel) (by decide +kernel) rfl
theorem o107_18 : OKp l S b Lx xs dC dI cA 107 18 (s_const (0)) := ok_iconst (n := 0) (by decide +kernel) (by decide) rfl
theorem o107_19 : OKp l S b Lx xs dC dI cA 107 19 (s_goto 21) := ok_goto (off := 5) (by decide +kernel) (by decide +kernel)
theorem o107_20 : OKp l S b Lx xs dC dI cA 107 20 (s_const (-13)) := ok_bipush (n := -13) (by decide +kernel) (by decide) rfl
theorem o107_21 : OKp l S b Lx xs dC dI cA 107 21 (s_ret) := ok_ret (by decide +kernel) rfl
theorem a107 (hl9 : l.stackTraces = false) : sm_all (OKp l S b Lx xs dC dI cA 107) 0 sc_107 := ⟨o107_0, o107_1, o107_2, o107_3, o107_4, o107_5, o107_6, o107_7, o107_8, o107_9, o107_10, o107_11, o107_12, o107_13, o107_14, o107_15, o107_16, o107_17, o107_18, o107_19, o107_20, o107_21, trivial⟩
theorem o108_0 : OKp l S b Lx xs dC dI cA 108 0 (s_aload 0) := ok_aload_n (k9 := 0) (by decide +kernel) rfl rfl
theorem o108_1 : OKp l S b Lx xs dC dI cA 108 1 (s_iload 1) := ok_iload_n (k9 := 1) (by decide +kernel) rfl rfl
theorem o108_2 : OKp l S b Lx xs dC dI cA 108 2 (s_invV (dv1 11 113 2) [] 1) := ok_invV (dv1_ok vc_RX11_46_11 rfl (by decide) (hXX 113 (by decide))) (by decide +kernel) rfl
theorem o108_3 : OKp l S b Lx xs dC dI cA 108 3 (s_astore 3) := ok_astore_n (k9 := 3) (by decide +kernel) rfl rfl
theorem o108_4 : OKp l S b Lx xs dC dI cA 108 4 (s_aload 3) := ok_aload_n (k9 := 3) (by decide +kernel) rfl rfl
theorem o108_5 : OKp l S b Lx xs dC dI cA 108 5 (s_ifnonnull 11) := ok_ifnonnull (off := 13) (by decide +kernel) (by decide +kernel) rfl
theorem o108_6 (hl9 : l.stackTraces = false) : OKp l S b Lx xs dC dI cA 108 6 (s_throw 1) := ok_throw (names := ["java/lang/RuntimeException", "java/lang/Exception"]) (ik := 221) (is := 223) (ic := 225) hl9 (fun s hZ => hZ.2.2.2.1) (by decide +kernel) (by decide +kernel) (by decide) rfl (by decide) w_908 w_76 at_RX11_225 (by decide +kernel) (by decide +kernel) (by decide +kernel) (by decide +kernel) (by decide +kernel) (by decide +kernel)
theorem o108_7 : OKp l S b Lx xs dC dI cA 108 7 (s_stuck) := ok_stuck
theorem o108_8 : OKp l S b Lx xs dC dI cA 108 8 (s_stuck) := ok_stuck
theorem o108_9 : OKp l S b Lx xs dC dI cA 108 9 (s_stuck) := ok_stuck
theorem o108_10 : OKp l S b Lx xs dC dI cA 108 10 (s_stuck) := ok_stuck
theorem o108_11 : OKp l S b Lx xs dC dI cA 108 11 (s_aload 3) := ok_aload_n (k9 := 3) (by decide +kernel) rfl rfl
theorem o108_12 : OKp l S b Lx xs dC dI cA 108 12 (s_getI (fun t => t == 8) 1) := ok_getI (by decide +kernel) rfl fd_RX11_228
theorem o108_13 : OKp l S b Lx xs dC dI cA 108 13 (s_if (fun x => x = 0) 20) := ok_if_eq (off := 15) (by decide +kernel) (by decide +kernel) rfl
theorem o108_14 : OKp l S b Lx xs dC dI cA 108 14 (s_iload 2) := ok_iload_n (k9 := 2) (by decide +kernel) rfl rfl
theorem o108_15 : OKp l S b Lx xs dC dI cA 108 15 (s_if (fun x => x < 0) 20) := ok_if_lt (off := 11) (by decide +kernel) (by decide +kernel) rfl
theorem o108_16 : OKp l S b Lx xs dC dI cA 108 16 (s_iload 2) := ok_iload_n (k9 := 2) (by decide +kernel) rfl rfl
theorem o108_17 : OKp l S b Lx xs dC dI cA 108 17 (s_aload 3) := ok_aload_n (k9 := 3) (by decide +kernel) rfl rfl
theorem o108_18 : OKp l S b Lx xs dC dI cA 108 18 (s_getI (fun t => t == 8) 3) := ok_getI (by decide +kernel) rfl fd_RX11_61
theorem o108_19 : OKp l S b Lx xs dC dI cA 108 19 (s_icmp (fun x y => x < y) 25) := ok_icmp_lt (off := 13) (by decide +kernel) (by decide +kernel) rfl
theorem o108_20 (hl9 : l.stackTraces = false) : OKp l S b Lx xs dC dI cA 108 20 (s_throw 0) := ok_throw (names := ["java/lang/RuntimeException", "java/lang/Exception"]) (ik := 231) (is := 233) (ic := 235) hl9 (fun s hZ => hZ.2.2.2.2.1) (by decide +kernel) (by decide +kernel) (by decide) rfl (by decide) w_797 w_77 at_RX11_235 (by decide +kernel) (by decide +kernel) (by decide +kernel) (by decide +kernel) (by decide +kernel) (by decide +kernel)
theorem o108_21 : OKp l S b Lx xs dC dI cA 108 21 (s_stuck) := ok_stuck
theorem o108_22 : OKp l S b Lx xs dC dI cA 108 22 (s_stuck) := ok_stuck
theorem o108_23 : OKp l S b Lx xs dC dI cA 108 23 (s_stuck) := ok_stuck
theorem o108_24 : OKp l S b Lx xs dC dI cA 108 24 (s_stuck) := ok_stuck
theorem o108_25 : OKp l S b Lx xs dC dI cA 108 25 (s_aload 3) := ok_aload_n (k9 := 3) (by decide +kernel) rfl rfl
theorem o108_26 : OKp l S b Lx xs dC dI cA 108 26 (s_iload 2) := ok_iload_n (k9 := 2) (by decide +kernel) rfl rfl
theorem o108_27 : OKp l S b Lx xs dC dI cA 108 27 (s_invV (dv1 8 57 2) [] 1) := ok_invV (dv1_ok vc_RX11_65_8 rfl (by decide) (hXX 57 (by decide))) (by decide +kernel) rfl
theorem o108_28 : OKp l S b Lx xs dC dI cA 108 28 (s_i2l) := ok_i2l (by decide +kernel) rfl
theorem o108_29 : OKp l S b Lx xs dC dI cA 108 29 (s_lret) := ok_lret (by decide +kernel) rfl
theorem a108 (hl9 : l.stackTraces = false) : sm_all (OKp l S b Lx xs dC dI cA 108) 0 sc_108 := ⟨o108_0, o108_1, o108_2, o108_3, o108_4, o108_5, o108_6 hl9, o108_7, o108_8, o108_9, o108_10, o108_11, o108_12, o108_13, o108_14, o108_15, o108_16, o108_17, o108_18, o108_19, o108_20 hl9, o108_21, o108_22, o108_23, o108_24, o108_25, o108_26, o108_27, o108_28, o108_29, trivial⟩
theorem o109_0 : OKp l S b Lx xs dC dI cA 109 0 (s_aload 0) := ok_aload_n (k9 := 0) (by decide +kernel) rfl rfl
theorem o109_1 : OKp l S b Lx xs dC dI cA 109 1 (s_iload 1) := ok_iload_n (k9 := 1) (by decide +kernel) rfl rfl
theorem o109_2 : OKp l S b Lx xs dC dI cA 109 2 (s_invV (dv1 11 113 2) [] 1) := ok_invV (dv1_ok vc_RX11_46_11 rfl (by decide) (hXX 113 (by decide))) (by decide +kernel) rfl
theorem o109_3 : OKp l S b Lx xs dC dI cA 109 3 (s_astore 6) := ok_astore (by decide +kernel) rfl
theorem o109_4 : OKp l S b Lx xs dC dI cA 109 4 (s_aload 0) := ok_aload_n (k9 := 0) (by decide +kernel) rfl rfl
theorem o109_5 : OKp l S b Lx xs dC dI cA 109 5 (s_iload 3) := ok_iload_n (k9 := 3) (by decide +kernel) rfl rfl
theorem o109_6 : OKp l S b Lx xs dC dI cA 109 6 (s_invV (dv1 11 113 2) [] 1) := ok_invV (dv1_ok vc_RX11_46_11 rfl (by decide) (hXX 113 (by decide))) (by decide +kernel) rfl
theorem o109_7 : OKp l S b Lx xs dC dI cA 109 7 (s_astore 7) := ok_astore (by decide +kernel) rfl
theorem o109_8 : OKp l S b Lx xs dC dI cA 109 8 (s_aload 6) := ok_aload (by decide +kernel) rfl
theorem o109_9 : OKp l S b Lx xs dC dI cA 109 9 (s_ifnull 12) := ok_ifnull (off := 8) (by decide +kernel) (by decide +kernel) rfl
theorem o109_10 : OKp l S b Lx xs dC dI cA 109 10 (s_aload 7) := ok_aload (by decide +kernel) rfl
theorem o109_11 : OKp l S b Lx xs dC dI cA 109 11 (s_ifnonnull 14) := ok_ifnonnull (off := 5) (by decide +kernel) (by decide +kernel) rfl
theorem o109_12 : OKp l S b Lx xs dC dI cA 109 12 (s_const (-1)) := ok_iconst (n := -1) (by decide +kernel) (by decide) rfl
theorem o109_13 : OKp l S b Lx xs dC dI cA 109 13 (s_ret) := ok_ret (by decide +kernel) rfl
theorem o109_14 : OKp l S b Lx xs dC dI cA 109 14 (s_aload 6) := ok_aload (by decide +kernel) rfl
theorem o109_15 : OKp l S b Lx xs dC dI cA 109 15 (s_invV (dv1 8 54 1) [] 0) := ok_invV (dv1_ok vc_RX11_236_8 rfl (by decide) (hXX 54 (by decide))) (by decide +kernel) rfl
theorem o109_16 : OKp l S b Lx xs dC dI cA 109 16 (s_if (fun x => x ≠ 0) 20) := ok_if_ne (off := 11) (by decide +kernel) (by decide +kernel) rfl
theorem o109_17 : OKp l S b Lx xs dC dI cA 109 17 (s_aload 7) := ok_aload (by decide +kernel) rfl
theorem o109_18 : OKp l S b Lx xs dC dI cA 109 18 (s_invV (dv1 8 54 1) [] 0) := ok_invV (dv1_ok vc_RX11_236_8 rfl (by decide) (hXX 54 (by decide))) (by decide +kernel) rfl
theorem o109_19 : OKp l S b Lx xs dC dI cA 109 19 (s_if (fun x => x = 0) 22) := ok_if_eq (off := 6) (by decide +kernel) (by decide +kernel) rfl
theorem o109_20 : OKp l S b Lx xs dC dI cA 109 20 (s_const (-11)) := ok_bipush (n := -11) (by decide +kernel) (by decide) rfl
theorem o109_21 : OKp l S b Lx xs dC dI cA 109 21 (s_ret) := ok_ret (by decide +kernel) rfl
theorem o109_22 : OKp l S b Lx xs dC dI cA 109 22 (s_aload 6) := ok_aload (by decide +kernel) rfl
theorem o109_23 : OKp l S b Lx xs dC dI cA 109 23 (s_getI (fun t => t == 8) 1) := ok_getI (by decide +kernel) rfl fd_RX11_228
theorem o109_24 : OKp l S b Lx xs dC dI cA 109 24 (s_if (fun x => x = 0) 33) := ok_if_eq (off := 24) (by decide +kernel) (by decide +kernel) rfl
theorem o109_25 : OKp l S b Lx xs dC dI cA 109 25 (s_aload 7) := ok_aload (by decide +kernel) rfl
theorem o109_26 : OKp l S b Lx xs dC dI cA 109 26 (s_getI (fun t => t == 8) 1) := ok_getI (by decide +kernel) rfl fd_RX11_228
theorem o109_27 : OKp l S b Lx xs dC dI cA 109 27 (s_if (fun x => x = 0) 33) := ok_if_eq (off := 16) (by decide +kernel) (by decide +kernel) rfl
theorem o109_28 : OKp l S b Lx xs dC dI cA 109 28 (s_aload 6) := ok_aload (by decide +kernel) rfl
theorem o109_29 : OKp l S b Lx xs dC dI cA 109 29 (s_getI (fun t => t == 8) 2) := ok_getI (by decide +kernel) rfl fd_RX11_240
theorem o109_30 : OKp l S b Lx xs dC dI cA 109 30 (s_aload 7) := ok_aload (by decide +kernel) rfl
theorem o109_31 : OKp l S b Lx xs dC dI cA 109 31 (s_getI (fun t => t == 8) 2) := ok_getI (by decide +kernel) rfl fd_RX11_240
theorem o109_32 : OKp l S b Lx xs dC dI cA 109 32 (s_icmp (fun x y => x = y) 35) := ok_icmp_eq (off := 6) (by decide +kernel) (by decide +kernel) rfl
theorem o109_33 : OKp l S b Lx xs dC dI cA 109 33 (s_const (-12)) := ok_bipush (n := -12) (by decide +kernel) (by decide) rfl
theorem o109_34 : OKp l S b Lx xs dC dI cA 109 34 (s_ret) := ok_ret (by decide +kernel) rfl
theorem o109_35 : OKp l S b Lx xs dC dI cA 109 35 (s_iload 2) := ok_iload_n (k9 := 2) (by decide +kernel) rfl rfl
theorem o109_36 : OKp l S b Lx xs dC dI cA 109 36 (s_if (fun x => x < 0) 53) := ok_if_lt (off := 38) (by decide +kernel) (by decide +kernel) rfl
theorem o109_37 : OKp l S b Lx xs dC dI cA 109 37 (s_iload 4) := ok_iload (by decide +kernel) rfl
theorem o109_38 : OKp l S b Lx xs dC dI cA 109 38 (s_if (fun x => x < 0) 53) := ok_if_lt (off := 33) (by decide +kernel) (by decide +kernel) rfl
theorem o109_39 : OKp l S b Lx xs dC dI cA 109 39 (s_iload 5) := ok_iload (by decide +kernel) rfl
theorem o109_40 : OKp l S b Lx xs dC dI cA 109 40 (s_if (fun x => x < 0) 53) := ok_if_lt (off := 28) (by decide +kernel) (by decide +kernel) rfl
theorem o109_41 : OKp l S b Lx xs dC dI cA 109 41 (s_iload 5) := ok_iload (by decide +kernel) rfl
theorem o109_42 : OKp l S b Lx xs dC dI cA 109 42 (s_aload 6) := ok_aload (by decide +kernel) rfl
theorem o109_43 : OKp l S b Lx xs dC dI cA 109 43 (s_getI (fun t => t == 8) 3) := ok_getI (by decide +kernel) rfl fd_RX11_61
theorem o109_44 : OKp l S b Lx xs dC dI cA 109 44 (s_iload 2) := ok_iload_n (k9 := 2) (by decide +kernel) rfl rfl
theorem o109_45 : OKp l S b Lx xs dC dI cA 109 45 (s_bin g_isub) := ok_isub (by decide +kernel) rfl
theorem o109_46 : OKp l S b Lx xs dC dI cA 109 46 (s_icmp (fun x y => y < x) 53) := ok_icmp_gt (off := 16) (by decide +kernel) (by decide +kernel) rfl
theorem o109_47 : OKp l S b Lx xs dC dI cA 109 47 (s_iload 5) := ok_iload (by decide +kernel) rfl
theorem o109_48 : OKp l S b Lx xs dC dI cA 109 48 (s_aload 7) := ok_aload (by decide +kernel) rfl
theorem o109_49 : OKp l S b Lx xs dC dI cA 109 49 (s_getI (fun t => t == 8) 3) := ok_getI (by decide +kernel) rfl fd_RX11_61
theorem o109_50 : OKp l S b Lx xs dC dI cA 109 50 (s_iload 4) := ok_iload (by decide +kernel) rfl
theorem o109_51 : OKp l S b Lx xs dC dI cA 109 51 (s_bin g_isub) := ok_isub (by decide +kernel) rfl
theorem o109_52 : OKp l S b Lx xs dC dI cA 109 52 (s_icmp (fun x y => x ≤ y) 55) := ok_icmp_le (off := 6) (by decide +kernel) (by decide +kernel) rfl
theorem o109_53 : OKp l S b Lx xs dC dI cA 109 53 (s_const (-13)) := ok_bipush (n := -13) (by decide +kernel) (by decide) rfl
theorem o109_54 : OKp l S b Lx xs dC dI cA 109 54 (s_ret) := ok_ret (by decide +kernel) rfl
theorem o109_55 : OKp l S b Lx xs dC dI cA 109 55 (s_aload 6) := ok_aload (by decide +kernel) rfl
theorem o109_56 : OKp l S b Lx xs dC dI cA 109 56 (s_getR (fun t => t == 8) 4) := ok_getR (by decide +kernel) rfl fd_RX11_243
theorem o109_57 : OKp l S b Lx xs dC dI cA 109 57 (s_iload 2) := ok_iload_n (k9 := 2) (by decide +kernel) rfl rfl
theorem o109_58 : OKp l S b Lx xs dC dI cA 109 58 (s_aload 7) := ok_aload (by decide +kernel) rfl
theorem o109_59 : OKp l S b Lx xs dC dI cA 109 59 (s_getR (fun t => t == 8) 4) := ok_getR (by decide +kernel) rfl fd_RX11_243
theorem o109_60 : OKp l S b Lx xs dC dI cA 109 60 (s_iload 4) := ok_iload (by decide +kernel) rfl
theorem o109_61 : OKp l S b Lx xs dC dI cA 109 61 (s_iload 5) := ok_iload (by decide +kernel) rfl
theorem o109_62 : OKp l S b Lx xs dC dI cA 109 62 (s_acopy) := ok_acopy w_747 w_232 w_231 w_62 (by decide +kernel) rfl
theorem o109_63 : OKp l S b Lx xs dC dI cA 109 63 (s_iload 5) := ok_iload (by decide +kernel) rfl
theorem o109_64 : OKp l S b Lx xs dC dI cA 109 64 (s_ret) := ok_ret (by decide +kernel) rfl
theorem a109_0 (hl9 : l.stackTraces = false) : sm_all (OKp l S b Lx xs dC dI cA 109) 0 sc_109_0 := ⟨o109_0, o109_1, o109_2, o109_3, o109_4, o109_5, o109_6, o109_7, o109_8, o109_9, o109_10, o109_11, o109_12, o109_13, o109_14, o109_15, o109_16, o109_17, o109_18, o109_19, o109_20, o109_21, o109_22, o109_23, o109_24, o109_25, o109_26, o109_27, o109_28, o109_29, o109_30, o109_31, o109_32, o109_33, o109_34, o109_35, o109_36, o109_37, o109_38, o109_39, o109_40, o109_41, o109_42, o109_43, o109_44, o109_45, o109_46, o109_47, o109_48, o109_49, o109_50, o109_51, o109_52, o109_53, o109_54, o109_55, o109_56, o109_57, o109_58, o109_59, trivial⟩
theorem a109_1 (hl9 : l.stackTraces = false) : sm_all (OKp l S b Lx xs dC dI cA 109) 60 sc_109_1 := ⟨o109_60, o109_61, o109_62, o109_63, o109_64, trivial⟩
theorem a109 (hl9 : l.stackTraces = false) : sm_all (OKp l S b Lx xs dC dI cA 109) 0 sc_109 := sm_all_app _ _ _ (a109_0 hl9) (a109_1 hl9)
theorem o110_0 : OKp l S b Lx xs dC dI cA 110 0 (s_aload 0) := ok_aload_n (k9 := 0) (by decide +kernel) rfl rfl
theorem o110_1 : OKp l S b Lx xs dC dI cA 110 1 (s_iload 1) := ok_iload_n (k9 := 1) (by decide +kernel) rfl rfl
theorem o110_2 : OKp l S b Lx xs dC dI cA 110 2 (s_invV (dv1 11 113 2) [] 1) := ok_invV (dv1_ok vc_RX11_46_11 rfl (by decide) (hXX 113 (by decide))) (by decide +kernel) rfl
theorem o110_3 : OKp l S b Lx xs dC dI cA 110 3 (s_astore 2) := ok_astore_n (k9 := 2) (by decide +kernel) rfl rfl
theorem o110_4 : OKp l S b Lx xs dC dI cA 110 4 (s_aload 2) := ok_aload_n (k9 := 2) (by decide +kernel) rfl rfl
theorem o110_5 : OKp l S b Lx xs dC dI cA 110 5 (s_invS 116 1 1) := ok_invS rfl rfl (by decide) (hXX 116 (by decide)) w_752 w_753 w_57 c_116 (by decide +kernel) (by decide +kernel) rfl
theorem o110_6 : OKp l S b Lx xs dC dI cA 110 6 (s_istore 3) := ok_istore_n (k9 := 3) (by decide +kernel) rfl rfl
theorem o110_7 : OKp l S b Lx xs dC dI cA 110 7 (s_aload 2) := ok_aload_n (k9 := 2) (by decide +kernel) rfl rfl
theorem o110_8 : OKp l S b Lx xs dC dI cA 110 8 (s_ifnull 11) := ok_ifnull (off := 7) (by decide +kernel) (by decide +kernel) rfl
theorem o110_9 : OKp l S b Lx xs dC dI cA 110 9 (s_iload 3) := ok_iload_n (k9 := 3) (by decide +kernel) rfl rfl
theorem o110_10 : OKp l S b Lx xs dC dI cA 110 10 (s_if (fun x => x = 0) 13) := ok_if_eq (off := 5) (by decide +kernel) (by decide +kernel) rfl
theorem o110_11 : OKp l S b Lx xs dC dI cA 110 11 (s_iload 3) := ok_iload_n (k9 := 3) (by decide +kernel) rfl rfl
theorem o110_12 : OKp l S b Lx xs dC dI cA 110 12 (s_ret) := ok_ret (by decide +kernel) rfl
theorem o110_13 : OKp l S b Lx xs dC dI cA 110 13 (s_aload 0) := ok_aload_n (k9 := 0) (by decide +kernel) rfl rfl
theorem o110_14 : OKp l S b Lx xs dC dI cA 110 14 (s_getR (fun t => t == 11) 0) := ok_getR (by decide +kernel) rfl fd_RX11_10
theorem o110_15 : OKp l S b Lx xs dC dI cA 110 15 (s_aload 2) := ok_aload_n (k9 := 2) (by decide +kernel) rfl rfl
theorem o110_16 : OKp l S b Lx xs dC dI cA 110 16 (s_getR (fun t => t == 8) 0) := ok_getR (by decide +kernel) rfl fd_RX11_255
theorem o110_17 : OKp l S b Lx xs dC dI cA 110 17 (s_invV (dv1 10 71 2) [] 1) := ok_invV (dv1_ok vc_RX11_259_10 rfl (by decide) (hXX 71 (by decide))) (by decide +kernel) rfl
theorem o110_18 : OKp l S b Lx xs dC dI cA 110 18 (s_if (fun x => x = 0) 25) := ok_if_eq (off := 15) (by decide +kernel) (by decide +kernel) rfl
theorem o110_19 : OKp l S b Lx xs dC dI cA 110 19 (s_aload 0) := ok_aload_n (k9 := 0) (by decide +kernel) rfl rfl
theorem o110_20 : OKp l S b Lx xs dC dI cA 110 20 (s_getR (fun t => t == 11) 0) := ok_getR (by decide +kernel) rfl fd_RX11_10
theorem o110_21 : OKp l S b Lx xs dC dI cA 110 21 (s_getI (fun t => t == 10) 3) := ok_getI (by decide +kernel) rfl fd_RX11_181
theorem o110_22 : OKp l S b Lx xs dC dI cA 110 22 (s_const (1)) := ok_iconst (n := 1) (by decide +kernel) (by decide) rfl
theorem o110_23 : OKp l S b Lx xs dC dI cA 110 23 (s_bin g_isub) := ok_isub (by decide +kernel) rfl
theorem o110_24 : OKp l S b Lx xs dC dI cA 110 24 (s_goto 26) := ok_goto (off := 5) (by decide +kernel) (by decide +kernel)
theorem o110_25 : OKp l S b Lx xs dC dI cA 110 25 (s_const (-2)) := ok_bipush (n := -2) (by decide +kernel) (by decide) rfl
theorem o110_26 : OKp l S b Lx xs dC dI cA 110 26 (s_ret) := ok_ret (by decide +kernel) rfl
theorem a110 (hl9 : l.stackTraces = false) : sm_all (OKp l S b Lx xs dC dI cA 110) 0 sc_110 := ⟨o110_0, o110_1, o110_2, o110_3, o110_4, o110_5, o110_6, o110_7, o110_8, o110_9, o110_10, o110_11, o110_12, o110_13, o110_14, o110_15, o110_16, o110_17, o110_18, o110_19, o110_20, o110_21, o110_22, o110_23, o110_24, o110_25, o110_26, trivial⟩
theorem o111_0 : OKp l S b Lx xs dC dI cA 111 0 (s_aload 0) := ok_aload_n (k9 := 0) (by decide +kernel) rfl rfl
theorem o111_1 : OKp l S b Lx xs dC dI cA 111 1 (s_iload 1) := ok_iload_n (k9 := 1) (by decide +kernel) rfl rfl
theorem o111_2 : OKp l S b Lx xs dC dI cA 111 2 (s_invV (dv1 11 113 2) [] 1) := ok_invV (dv1_ok vc_RX11_46_11 rfl (by decide) (hXX 113 (by decide))) (by decide +kernel) rfl
theorem o111_3 : OKp l S b Lx xs dC dI cA 111 3 (s_astore 2) := ok_astore_n (k9 := 2) (by decide +kernel) rfl rfl
theorem o111_4 : OKp l S b Lx xs dC dI cA 111 4 (s_aload 2) := ok_aload_n (k9 := 2) (by decide +kernel) rfl rfl
theorem o111_5 : OKp l S b Lx xs dC dI cA 111 5 (s_invS 116 1 1) := ok_invS rfl rfl (by decide) (hXX 116 (by decide)) w_752 w_753 w_57 c_116 (by decide +kernel) (by decide +kernel) rfl
theorem o111_6 : OKp l S b Lx xs dC dI cA 111 6 (s_istore 3) := ok_istore_n (k9 := 3) (by decide +kernel) rfl rfl
theorem o111_7 : OKp l S b Lx xs dC dI cA 111 7 (s_aload 2) := ok_aload_n (k9 := 2) (by decide +kernel) rfl rfl
theorem o111_8 : OKp l S b Lx xs dC dI cA 111 8 (s_ifnull 14) := ok_ifnull (off := 14) (by decide +kernel) (by decide +kernel) rfl
theorem o111_9 : OKp l S b Lx xs dC dI cA 111 9 (s_aload 2) := ok_aload_n (k9 := 2) (by decide +kernel) rfl rfl
theorem o111_10 : OKp l S b Lx xs dC dI cA 111 10 (s_getR (fun t => t == 8) 0) := ok_getR (by decide +kernel) rfl fd_RX11_255
theorem o111_11 : OKp l S b Lx xs dC dI cA 111 11 (s_ifnull 14) := ok_ifnull (off := 7) (by decide +kernel) (by decide +kernel) rfl
theorem o111_12 : OKp l S b Lx xs dC dI cA 111 12 (s_iload 3) := ok_iload_n (k9 := 3) (by decide +kernel) rfl rfl
theorem o111_13 : OKp l S b Lx xs dC dI cA 111 13 (s_if (fun x => x = 0) 16) := ok_if_eq (off := 5) (by decide +kernel) (by decide +kernel) rfl
theorem o111_14 : OKp l S b Lx xs dC dI cA 111 14 (s_iload 3) := ok_iload_n (k9 := 3) (by decide +kernel) rfl rfl
theorem o111_15 : OKp l S b Lx xs dC dI cA 111 15 (s_ret) := ok_ret (by decide +kernel) rfl
theorem o111_16 : OKp l S b Lx xs dC dI cA 111 16 (s_aload 2) := ok_aload_n (k9 := 2) (by decide +kernel) rfl rfl
theorem o111_17 : OKp l S b Lx xs dC dI cA 111 17 (s_getR (fun t => t == 8) 0) := ok_getR (by decide +kernel) rfl fd_RX11_255
theorem o111_18 : OKp l S b Lx xs dC dI cA 111 18 (s_invV dv_6 [] 0) := ok_invV (by intro t y ml h; unfold dv_6 at h; by_cases h0 : t = 0; (subst h0; simp at h; obtain ⟨rfl, rfl⟩ := h; exact ⟨vc_RX11_263_0, rfl, by decide, hXX 3 (by decide)⟩); by_cases h2 : t = 2; (subst h2; simp at h; obtain ⟨rfl, rfl⟩ := h; exact ⟨vc_RX11_263_2, rfl, by decide, hXX 22 (by decide)⟩); by_cases h3 : t = 3; (subst h3; simp at h; obtain ⟨rfl, rfl⟩ := h; exact ⟨vc_RX11_263_3, rfl, by decide, hXX 28 (by decide)⟩); by_cases h4 : t = 4; (subst h4; simp at h; obtain ⟨rfl, rfl⟩ := h; exact ⟨vc_RX11_263_4, rfl, by decide, hXX 32 (by decide)⟩); by_cases h5 : t = 5; (subst h5; simp at h; obtain ⟨rfl, rfl⟩ := h; exact ⟨vc_RX11_263_5, rfl, by decide, hXX 36 (by decide)⟩); by_cases h6 : t = 6; (subst h6; simp at h; obtain ⟨rfl, rfl⟩ := h; exact ⟨vc_RX11_263_6, rfl, by decide, hXX 42 (by decide)⟩); by_cases h7 : t = 7; (subst h7; simp at h; obtain ⟨rfl, rfl⟩ := h; exact ⟨vc_RX11_263_7, rfl, by decide, hXX 50 (by decide)⟩); by_cases h9 : t = 9; (subst h9; simp at h; obtain ⟨rfl, rfl⟩ := h; exact ⟨vc_RX11_263_9, rfl, by decide, hXX 63 (by decide)⟩); simp [h0, h2, h3, h4, h5, h6, h7, h9] at h) (by decide +kernel) rfl
theorem o111_19 : OKp l S b Lx xs dC dI cA 111 19 (s_ret) := ok_ret (by decide +kernel) rfl
theorem a111 (hl9 : l.stackTraces = false) : sm_all (OKp l S b Lx xs dC dI cA 111) 0 sc_111 := ⟨o111_0, o111_1, o111_2, o111_3, o111_4, o111_5, o111_6, o111_7, o111_8, o111_9, o111_10, o111_11, o111_12, o111_13, o111_14, o111_15, o111_16, o111_17, o111_18, o111_19, trivial⟩
theorem o112_0 : OKp l S b Lx xs dC dI cA 112 0 (s_aload 0) := ok_aload_n (k9 := 0) (by decide +kernel) rfl rfl
theorem o112_1 : OKp l S b Lx xs dC dI cA 112 1 (s_iload 1) := ok_iload_n (k9 := 1) (by decide +kernel) rfl rfl
theorem o112_2 : OKp l S b Lx xs dC dI cA 112 2 (s_invV (dv1 11 113 2) [] 1) := ok_invV (dv1_ok vc_RX11_46_11 rfl (by decide) (hXX 113 (by decide))) (by decide +kernel) rfl
theorem o112_3 : OKp l S b Lx xs dC dI cA 112 3 (s_astore 2) := ok_astore_n (k9 := 2) (by decide +kernel) rfl rfl
theorem o112_4 : OKp l S b Lx xs dC dI cA 112 4 (s_aload 2) := ok_aload_n (k9 := 2) (by decide +kernel) rfl rfl
theorem o112_5 : OKp l S b Lx xs dC dI cA 112 5 (s_invS 116 1 1) := ok_invS rfl rfl (by decide) (hXX 116 (by decide)) w_752 w_753 w_57 c_116 (by decide +kernel) (by decide +kernel) rfl
theorem o112_6 : OKp l S b Lx xs dC dI cA 112 6 (s_istore 3) := ok_istore_n (k9 := 3) (by decide +kernel) rfl rfl
theorem o112_7 : OKp l S b Lx xs dC dI cA 112 7 (s_aload 2) := ok_aload_n (k9 := 2) (by decide +kernel) rfl rfl
theorem o112_8 : OKp l S b Lx xs dC dI cA 112 8 (s_ifnull 14) := ok_ifnull (off := 14) (by decide +kernel) (by decide +kernel) rfl
theorem o112_9 : OKp l S b Lx xs dC dI cA 112 9 (s_aload 2) := ok_aload_n (k9 := 2) (by decide +kernel) rfl rfl
theorem o112_10 : OKp l S b Lx xs dC dI cA 112 10 (s_getR (fun t => t == 8) 0) := ok_getR (by decide +kernel) rfl fd_RX11_255
theorem o112_11 : OKp l S b Lx xs dC dI cA 112 11 (s_ifnull 14) := ok_ifnull (off := 7) (by decide +kernel) (by decide +kernel) rfl
theorem o112_12 : OKp l S b Lx xs dC dI cA 112 12 (s_iload 3) := ok_iload_n (k9 := 3) (by decide +kernel) rfl rfl
theorem o112_13 : OKp l S b Lx xs dC dI cA 112 13 (s_if (fun x => x = 0) 16) := ok_if_eq (off := 5) (by decide +kernel) (by decide +kernel) rfl
theorem o112_14 : OKp l S b Lx xs dC dI cA 112 14 (s_iload 3) := ok_iload_n (k9 := 3) (by decide +kernel) rfl rfl
theorem o112_15 : OKp l S b Lx xs dC dI cA 112 15 (s_ret) := ok_ret (by decide +kernel) rfl
theorem o112_16 : OKp l S b Lx xs dC dI cA 112 16 (s_aload 2) := ok_aload_n (k9 := 2) (by decide +kernel) rfl rfl
theorem o112_17 : OKp l S b Lx xs dC dI cA 112 17 (s_getR (fun t => t == 8) 0) := ok_getR (by decide +kernel) rfl fd_RX11_255
theorem o112_18 : OKp l S b Lx xs dC dI cA 112 18 (s_invVH dv_7 [(0, 21, 4)] 0) := ok_invVH (by decide +kernel) (by intro t y ml h; unfold dv_7 at h; by_cases h0 : t = 0; (subst h0; simp at h; obtain ⟨rfl, rfl⟩ := h; exact ⟨vc_RX11_266_0, rfl, by decide, hXX 51 (by decide)⟩); by_cases h2 : t = 2; (subst h2; simp at h; obtain ⟨rfl, rfl⟩ := h; exact ⟨vc_RX11_266_2, rfl, by decide, hXX 51 (by decide)⟩); by_cases h3 : t = 3; (subst h3; simp at h; obtain ⟨rfl, rfl⟩ := h; exact ⟨vc_RX11_266_3, rfl, by decide, hXX 51 (by decide)⟩); by_cases h4 : t = 4; (subst h4; simp at h; obtain ⟨rfl, rfl⟩ := h; exact ⟨vc_RX11_266_4, rfl, by decide, hXX 51 (by decide)⟩); by_cases h5 : t = 5; (subst h5; simp at h; obtain ⟨rfl, rfl⟩ := h; exact ⟨vc_RX11_266_5, rfl, by decide, hXX 51 (by decide)⟩); by_cases h6 : t = 6; (subst h6; simp at h; obtain ⟨rfl, rfl⟩ := h; exact ⟨vc_RX11_266_6, rfl, by decide, hXX 51 (by decide)⟩); by_cases h7 : t = 7; (subst h7; simp at h; obtain ⟨rfl, rfl⟩ := h; exact ⟨vc_RX11_266_7, rfl, by decide, hXX 51 (by decide)⟩); by_cases h9 : t = 9; (subst h9; simp at h; obtain ⟨rfl, rfl⟩ := h; exact ⟨vc_RX11_266_9, rfl, by decide, hXX 64 (by decide)⟩); simp [h0, h2, h3, h4, h5, h6, h7, h9] at h) hd_112 (by decide +kernel) rfl
theorem o112_19 : OKp l S b Lx xs dC dI cA 112 19 (s_goto 25) := ok_goto (off := 13) (by decide +kernel) (by decide +kernel)
theorem o112_20 : OKp l S b Lx xs dC dI cA 112 20 (s_astore 4) := ok_astore (by decide +kernel) rfl
theorem o112_21 : OKp l S b Lx xs dC dI cA 112 21 (s_aload 2) := ok_aload_n (k9 := 2) (by decide +kernel) rfl rfl
theorem o112_22 : OKp l S b Lx xs dC dI cA 112 22 (s_getR (fun t => t == 8) 0) := ok_getR (by decide +kernel) rfl fd_RX11_255
theorem o112_23 : OKp l S b Lx xs dC dI cA 112 23 (s_invV dv_8 [] 0) := ok_invV (by intro t y ml h; unfold dv_8 at h; by_cases h0 : t = 0; (subst h0; simp at h; obtain ⟨rfl, rfl⟩ := h; exact ⟨vc_RX11_269_0, rfl, by decide, hXX 52 (by decide)⟩); by_cases h2 : t = 2; (subst h2; simp at h; obtain ⟨rfl, rfl⟩ := h; exact ⟨vc_RX11_269_2, rfl, by decide, hXX 52 (by decide)⟩); by_cases h3 : t = 3; (subst h3; simp at h; obtain ⟨rfl, rfl⟩ := h; exact ⟨vc_RX11_269_3, rfl, by decide, hXX 52 (by decide)⟩); by_cases h4 : t = 4; (subst h4; simp at h; obtain ⟨rfl, rfl⟩ := h; exact ⟨vc_RX11_269_4, rfl, by decide, hXX 52 (by decide)⟩); by_cases h5 : t = 5; (subst h5; simp at h; obtain ⟨rfl, rfl⟩ := h; exact ⟨vc_RX11_269_5, rfl, by decide, hXX 37 (by decide)⟩); by_cases h6 : t = 6; (subst h6; simp at h; obtain ⟨rfl, rfl⟩ := h; exact ⟨vc_RX11_269_6, rfl, by decide, hXX 43 (by decide)⟩); by_cases h7 : t = 7; (subst h7; simp at h; obtain ⟨rfl, rfl⟩ := h; exact ⟨vc_RX11_269_7, rfl, by decide, hXX 52 (by decide)⟩); by_cases h9 : t = 9; (subst h9; simp at h; obtain ⟨rfl, rfl⟩ := h; exact ⟨vc_RX11_269_9, rfl, by decide, hXX 52 (by decide)⟩); simp [h0, h2, h3, h4, h5, h6, h7, h9] at h) (by decide +kernel) rfl
theorem o112_24 : OKp l S b Lx xs dC dI cA 112 24 (s_ret) := ok_ret (by decide +kernel) rfl
theorem o112_25 : OKp l S b Lx xs dC dI cA 112 25 (s_const (-15)) := ok_bipush (n := -15) (by decide +kernel) (by decide) rfl
theorem o112_26 : OKp l S b Lx xs dC dI cA 112 26 (s_ret) := ok_ret (by decide +kernel) rfl
theorem a112 (hl9 : l.stackTraces = false) : sm_all (OKp l S b Lx xs dC dI cA 112) 0 sc_112 := ⟨o112_0, o112_1, o112_2, o112_3, o112_4, o112_5, o112_6, o112_7, o112_8, o112_9, o112_10, o112_11, o112_12, o112_13, o112_14, o112_15, o112_16, o112_17, o112_18, o112_19, o112_20, o112_21, o112_22, o112_23, o112_24, o112_25, o112_26, trivial⟩
theorem o113_0 : OKp l S b Lx xs dC dI cA 113 0 (s_iload 1) := ok_iload_n (k9 := 1) (by decide +kernel) rfl rfl
theorem o113_1 : OKp l S b Lx xs dC dI cA 113 1 (s_if (fun x => x < 0) 12) := ok_if_lt (off := 21) (by decide +kernel) (by decide +kernel) rfl
theorem o113_2 : OKp l S b Lx xs dC dI cA 113 2 (s_iload 1) := ok_iload_n (k9 := 1) (by decide +kernel) rfl rfl
theorem o113_3 : OKp l S b Lx xs dC dI cA 113 3 (s_aload 0) := ok_aload_n (k9 := 0) (by decide +kernel) rfl rfl
theorem o113_4 : OKp l S b Lx xs dC dI cA 113 4 (s_getR (fun t => t == 11) 4) := ok_getR (by decide +kernel) rfl fd_RX11_28
theorem o113_5 : OKp l S b Lx xs dC dI cA 113 5 (s_alen) := ok_alen (by decide +kernel) rfl
theorem o113_6 : OKp l S b Lx xs dC dI cA 113 6 (s_icmp (fun x y => y ≤ x) 12) := ok_icmp_ge (off := 12) (by decide +kernel) (by decide +kernel) rfl
theorem o113_7 : OKp l S b Lx xs dC dI cA 113 7 (s_aload 0) := ok_aload_n (k9 := 0) (by decide +kernel) rfl rfl
theorem o113_8 : OKp l S b Lx xs dC dI cA 113 8 (s_getR (fun t => t == 11) 4) := ok_getR (by decide +kernel) rfl fd_RX11_28
theorem o113_9 : OKp l S b Lx xs dC dI cA 113 9 (s_iload 1) := ok_iload_n (k9 := 1) (by decide +kernel) rfl rfl
theorem o113_10 : OKp l S b Lx xs dC dI cA 113 10 (s_aald 54) := ok_aald (t := 54) (by decide) (fun _ => rfl) (by decide) (by decide +kernel) rfl
theorem o113_11 : OKp l S b Lx xs dC dI cA 113 11 (s_goto 13) := ok_goto (off := 4) (by decide +kernel) (by decide +kernel)
theorem o113_12 : OKp l S b Lx xs dC dI cA 113 12 (s_null) := ok_null (by decide +kernel) rfl
theorem o113_13 : OKp l S b Lx xs dC dI cA 113 13 (s_aret) := ok_aret (by decide +kernel) rfl
theorem a113 (hl9 : l.stackTraces = false) : sm_all (OKp l S b Lx xs dC dI cA 113) 0 sc_113 := ⟨o113_0, o113_1, o113_2, o113_3, o113_4, o113_5, o113_6, o113_7, o113_8, o113_9, o113_10, o113_11, o113_12, o113_13, trivial⟩
theorem o114_0 : OKp l S b Lx xs dC dI cA 114 0 (s_aload 0) := ok_aload_n (k9 := 0) (by decide +kernel) rfl rfl
theorem o114_1 : OKp l S b Lx xs dC dI cA 114 1 (s_ifnonnull 4) := ok_ifnonnull (off := 5) (by decide +kernel) (by decide +kernel) rfl
theorem o114_2 : OKp l S b Lx xs dC dI cA 114 2 (s_const (-1)) := ok_iconst (n := -1) (by decide +kernel) (by decide) rfl
theorem o114_3 : OKp l S b Lx xs dC dI cA 114 3 (s_ret) := ok_ret (by decide +kernel) rfl
theorem o114_4 : OKp l S b Lx xs dC dI cA 114 4 (s_aload 0) := ok_aload_n (k9 := 0) (by decide +kernel) rfl rfl
theorem o114_5 : OKp l S b Lx xs dC dI cA 114 5 (s_invV (dv1 8 54 1) [] 0) := ok_invV (dv1_ok vc_RX11_236_8 rfl (by decide) (hXX 54 (by decide))) (by decide +kernel) rfl
theorem o114_6 : OKp l S b Lx xs dC dI cA 114 6 (s_if (fun x => x = 0) 9) := ok_if_eq (off := 6) (by decide +kernel) (by decide +kernel) rfl
theorem o114_7 : OKp l S b Lx xs dC dI cA 114 7 (s_const (-11)) := ok_bipush (n := -11) (by decide +kernel) (by decide) rfl
theorem o114_8 : OKp l S b Lx xs dC dI cA 114 8 (s_ret) := ok_ret (by decide +kernel) rfl
theorem o114_9 : OKp l S b Lx xs dC dI cA 114 9 (s_aload 0) := ok_aload_n (k9 := 0) (by decide +kernel) rfl rfl
theorem o114_10 : OKp l S b Lx xs dC dI cA 114 10 (s_getI (fun t => t == 8) 1) := ok_getI (by decide +kernel) rfl fd_RX11_228
theorem o114_11 : OKp l S b Lx xs dC dI cA 114 11 (s_if (fun x => x = 0) 14) := ok_if_eq (off := 7) (by decide +kernel) (by decide +kernel) rfl
theorem o114_12 : OKp l S b Lx xs dC dI cA 114 12 (s_const (0)) := ok_iconst (n := 0) (by decide +kernel) (by decide) rfl
theorem o114_13 : OKp l S b Lx xs dC dI cA 114 13 (s_goto 15) := ok_goto (off := 5) (by decide +kernel) (by decide +kernel)
theorem o114_14 : OKp l S b Lx xs dC dI cA 114 14 (s_const (-12)) := ok_bipush (n := -12) (by decide +kernel) (by decide) rfl
theorem o114_15 : OKp l S b Lx xs dC dI cA 114 15 (s_ret) := ok_ret (by decide +kernel) rfl
theorem a114 (hl9 : l.stackTraces = false) : sm_all (OKp l S b Lx xs dC dI cA 114) 0 sc_114 := ⟨o114_0, o114_1, o114_2, o114_3, o114_4, o114_5, o114_6, o114_7, o114_8, o114_9, o114_10, o114_11, o114_12, o114_13, o114_14, o114_15, trivial⟩
theorem o115_0 : OKp l S b Lx xs dC dI cA 115 0 (s_aload 0) := ok_aload_n (k9 := 0) (by decide +kernel) rfl rfl
theorem o115_1 : OKp l S b Lx xs dC dI cA 115 1 (s_invS 114 1 1) := ok_invS rfl rfl (by decide) (hXX 114 (by decide)) w_205 w_206 w_57 c_114 (by decide +kernel) (by decide +kernel) rfl
theorem o115_2 : OKp l S b Lx xs dC dI cA 115 2 (s_istore 1) := ok_istore_n (k9 := 1) (by decide +kernel) rfl rfl
theorem o115_3 : OKp l S b Lx xs dC dI cA 115 3 (s_aload 0) := ok_aload_n (k9 := 0) (by decide +kernel) rfl rfl
theorem o115_4 : OKp l S b Lx xs dC dI cA 115 4 (s_ifnull 7) := ok_ifnull (off := 7) (by decide +kernel) (by decide +kernel) rfl
theorem o115_5 : OKp l S b Lx xs dC dI cA 115 5 (s_iload 1) := ok_iload_n (k9 := 1) (by decide +kernel) rfl rfl
theorem o115_6 : OKp l S b Lx xs dC dI cA 115 6 (s_if (fun x => x = 0) 9) := ok_if_eq (off := 5) (by decide +kernel) (by decide +kernel) rfl
theorem o115_7 : OKp l S b Lx xs dC dI cA 115 7 (s_iload 1) := ok_iload_n (k9 := 1) (by decide +kernel) rfl rfl
theorem o115_8 : OKp l S b Lx xs dC dI cA 115 8 (s_ret) := ok_ret (by decide +kernel) rfl
theorem o115_9 : OKp l S b Lx xs dC dI cA 115 9 (s_aload 0) := ok_aload_n (k9 := 0) (by decide +kernel) rfl rfl
theorem o115_10 : OKp l S b Lx xs dC dI cA 115 10 (s_getI (fun t => t == 8) 2) := ok_getI (by decide +kernel) rfl fd_RX11_240
theorem o115_11 : OKp l S b Lx xs dC dI cA 115 11 (s_if (fun x => x ≠ 0) 14) := ok_if_ne (off := 7) (by decide +kernel) (by decide +kernel) rfl
theorem o115_12 : OKp l S b Lx xs dC dI cA 115 12 (s_const (0)) := ok_iconst (n := 0) (by decide +kernel) (by decide) rfl
theorem o115_13 : OKp l S b Lx xs dC dI cA 115 13 (s_goto 15) := ok_goto (off := 5) (by decide +kernel) (by decide +kernel)
theorem o115_14 : OKp l S b Lx xs dC dI cA 115 14 (s_const (-12)) := ok_bipush (n := -12) (by decide +kernel) (by decide) rfl
theorem o115_15 : OKp l S b Lx xs dC dI cA 115 15 (s_ret) := ok_ret (by decide +kernel) rfl
theorem a115 (hl9 : l.stackTraces = false) : sm_all (OKp l S b Lx xs dC dI cA 115) 0 sc_115 := ⟨o115_0, o115_1, o115_2, o115_3, o115_4, o115_5, o115_6, o115_7, o115_8, o115_9, o115_10, o115_11, o115_12, o115_13, o115_14, o115_15, trivial⟩
theorem o116_0 : OKp l S b Lx xs dC dI cA 116 0 (s_aload 0) := ok_aload_n (k9 := 0) (by decide +kernel) rfl rfl
theorem o116_1 : OKp l S b Lx xs dC dI cA 116 1 (s_ifnonnull 4) := ok_ifnonnull (off := 5) (by decide +kernel) (by decide +kernel) rfl
theorem o116_2 : OKp l S b Lx xs dC dI cA 116 2 (s_const (-1)) := ok_iconst (n := -1) (by decide +kernel) (by decide) rfl
theorem o116_3 : OKp l S b Lx xs dC dI cA 116 3 (s_ret) := ok_ret (by decide +kernel) rfl
theorem o116_4 : OKp l S b Lx xs dC dI cA 116 4 (s_aload 0) := ok_aload_n (k9 := 0) (by decide +kernel) rfl rfl
theorem o116_5 : OKp l S b Lx xs dC dI cA 116 5 (s_invV (dv1 8 54 1) [] 0) := ok_invV (dv1_ok vc_RX11_236_8 rfl (by decide) (hXX 54 (by decide))) (by decide +kernel) rfl
theorem o116_6 : OKp l S b Lx xs dC dI cA 116 6 (s_if (fun x => x = 0) 9) := ok_if_eq (off := 6) (by decide +kernel) (by decide +kernel) rfl
theorem o116_7 : OKp l S b Lx xs dC dI cA 116 7 (s_const (-11)) := ok_bipush (n := -11) (by decide +kernel) (by decide) rfl
theorem o116_8 : OKp l S b Lx xs dC dI cA 116 8 (s_ret) := ok_ret (by decide +kernel) rfl
theorem o116_9 : OKp l S b Lx xs dC dI cA 116 9 (s_aload 0) := ok_aload_n (k9 := 0) (by decide +kernel) rfl rfl
theorem o116_10 : OKp l S b Lx xs dC dI cA 116 10 (s_getI (fun t => t == 8) 1) := ok_getI (by decide +kernel) rfl fd_RX11_228
theorem o116_11 : OKp l S b Lx xs dC dI cA 116 11 (s_if (fun x => x = 0) 14) := ok_if_eq (off := 8) (by decide +kernel) (by decide +kernel) rfl
theorem o116_12 : OKp l S b Lx xs dC dI cA 116 12 (s_const (-12)) := ok_bipush (n := -12) (by decide +kernel) (by decide) rfl
theorem o116_13 : OKp l S b Lx xs dC dI cA 116 13 (s_goto 15) := ok_goto (off := 4) (by decide +kernel) (by decide +kernel)
theorem o116_14 : OKp l S b Lx xs dC dI cA 116 14 (s_const (0)) := ok_iconst (n := 0) (by decide +kernel) (by decide) rfl
theorem o116_15 : OKp l S b Lx xs dC dI cA 116 15 (s_ret) := ok_ret (by decide +kernel) rfl
theorem a116 (hl9 : l.stackTraces = false) : sm_all (OKp l S b Lx xs dC dI cA 116) 0 sc_116 := ⟨o116_0, o116_1, o116_2, o116_3, o116_4, o116_5, o116_6, o116_7, o116_8, o116_9, o116_10, o116_11, o116_12, o116_13, o116_14, o116_15, trivial⟩
theorem o117_0 : OKp l S b Lx xs dC dI cA 117 0 (s_aload 1) := ok_aload_n (k9 := 1) (by decide +kernel) rfl rfl
theorem o117_1 : OKp l S b Lx xs dC dI cA 117 1 (s_invS 115 1 2) := ok_invS rfl rfl (by decide) (hXX 115 (by decide)) w_202 w_203 w_57 c_115 (by decide +kernel) (by decide +kernel) rfl
theorem o117_2 : OKp l S b Lx xs dC dI cA 117 2 (s_istore 2) := ok_istore_n (k9 := 2) (by decide +kernel) rfl rfl
theorem o117_3 : OKp l S b Lx xs dC dI cA 117 3 (s_aload 1) := ok_aload_n (k9 := 1) (by decide +kernel) rfl rfl
theorem o117_4 : OKp l S b Lx xs dC dI cA 117 4 (s_ifnull 7) := ok_ifnull (off := 7) (by decide +kernel) (by decide +kernel) rfl
theorem o117_5 : OKp l S b Lx xs dC dI cA 117 5 (s_iload 2) := ok_iload_n (k9 := 2) (by decide +kernel) rfl rfl
theorem o117_6 : OKp l S b Lx xs dC dI cA 117 6 (s_if (fun x => x = 0) 9) := ok_if_eq (off := 5) (by decide +kernel) (by decide +kernel) rfl
theorem o117_7 : OKp l S b Lx xs dC dI cA 117 7 (s_iload 2) := ok_iload_n (k9 := 2) (by decide +kernel) rfl rfl
theorem o117_8 : OKp l S b Lx xs dC dI cA 117 8 (s_ret) := ok_ret (by decide +kernel) rfl
theorem o117_9 : OKp l S b Lx xs dC dI cA 117 9 (s_aload 1) := ok_aload_n (k9 := 1) (by decide +kernel) rfl rfl
theorem o117_10 : OKp l S b Lx xs dC dI cA 117 10 (s_getI (fun t => t == 8) 3) := ok_getI (by decide +kernel) rfl fd_RX11_61
theorem o117_11 : OKp l S b Lx xs dC dI cA 117 11 (s_const (6)) := ok_bipush (n := 6) (by decide +kernel) (by decide) rfl
theorem o117_12 : OKp l S b Lx xs dC dI cA 117 12 (s_icmp (fun x y => x ≤ y) 15) := ok_icmp_le (off := 6) (by decide +kernel) (by decide +kernel) rfl
theorem o117_13 : OKp l S b Lx xs dC dI cA 117 13 (s_const (-13)) := ok_bipush (n := -13) (by decide +kernel) (by decide) rfl
theorem o117_14 : OKp l S b Lx xs dC dI cA 117 14 (s_ret) := ok_ret (by decide +kernel) rfl
theorem o117_15 : OKp l S b Lx xs dC dI cA 117 15 (s_const (0)) := ok_iconst (n := 0) (by decide +kernel) (by decide) rfl
theorem o117_16 : OKp l S b Lx xs dC dI cA 117 16 (s_istore 3) := ok_istore_n (k9 := 3) (by decide +kernel) rfl rfl
theorem o117_17 : OKp l S b Lx xs dC dI cA 117 17 (s_iload 3) := ok_iload_n (k9 := 3) (by decide +kernel) rfl rfl
theorem o117_18 : OKp l S b Lx xs dC dI cA 117 18 (s_aload 1) := ok_aload_n (k9 := 1) (by decide +kernel) rfl rfl
theorem o117_19 : OKp l S b Lx xs dC dI cA 117 19 (s_getI (fun t => t == 8) 3) := ok_getI (by decide +kernel) rfl fd_RX11_61
theorem o117_20 : OKp l S b Lx xs dC dI cA 117 20 (s_icmp (fun x y => y ≤ x) 32) := ok_icmp_ge (off := 27) (by decide +kernel) (by decide +kernel) rfl
theorem o117_21 : OKp l S b Lx xs dC dI cA 117 21 (s_aload 0) := ok_aload_n (k9 := 0) (by decide +kernel) rfl rfl
theorem o117_22 : OKp l S b Lx xs dC dI cA 117 22 (s_getR (fun t => t == 11) 0) := ok_getR (by decide +kernel) rfl fd_RX11_10
theorem o117_23 : OKp l S b Lx xs dC dI cA 117 23 (s_aload 1) := ok_aload_n (k9 := 1) (by decide +kernel) rfl rfl
theorem o117_24 : OKp l S b Lx xs dC dI cA 117 24 (s_iload 3) := ok_iload_n (k9 := 3) (by decide +kernel) rfl rfl
theorem o117_25 : OKp l S b Lx xs dC dI cA 117 25 (s_invV (dv1 8 57 2) [] 1) := ok_invV (dv1_ok vc_RX11_65_8 rfl (by decide) (hXX 57 (by decide))) (by decide +kernel) rfl
theorem o117_26 : OKp l S b Lx xs dC dI cA 117 26 (s_invV (dv1 10 68 2) [] 1) := ok_invV (dv1_ok vc_RX11_106_10 rfl (by decide) (hXX 68 (by decide))) (by decide +kernel) rfl
theorem o117_27 : OKp l S b Lx xs dC dI cA 117 27 (s_ifnonnull 30) := ok_ifnonnull (off := 6) (by decide +kernel) (by decide +kernel) rfl
theorem o117_28 : OKp l S b Lx xs dC dI cA 117 28 (s_const (-13)) := ok_bipush (n := -13) (by decide +kernel) (by decide) rfl
theorem o117_29 : OKp l S b Lx xs dC dI cA 117 29 (s_ret) := ok_ret (by decide +kernel) rfl
theorem o117_30 : OKp l S b Lx xs dC dI cA 117 30 (s_iinc 3 (1)) := ok_iinc (n := 1) (by decide +kernel) (by decide) rfl
theorem o117_31 : OKp l S b Lx xs dC dI cA 117 31 (s_goto 17) := ok_goto (off := -29) (by decide +kernel) (by decide +kernel)
theorem o117_32 : OKp l S b Lx xs dC dI cA 117 32 (s_const (0)) := ok_iconst (n := 0) (by decide +kernel) (by decide) rfl
theorem o117_33 : OKp l S b Lx xs dC dI cA 117 33 (s_ret) := ok_ret (by decide +kernel) rfl
theorem a117 (hl9 : l.stackTraces = false) : sm_all (OKp l S b Lx xs dC dI cA 117) 0 sc_117 := ⟨o117_0, o117_1, o117_2, o117_3, o117_4, o117_5, o117_6, o117_7, o117_8, o117_9, o117_10, o117_11, o117_12, o117_13, o117_14, o117_15, o117_16, o117_17, o117_18, o117_19, o117_20, o117_21, o117_22, o117_23, o117_24, o117_25, o117_26, o117_27, o117_28, o117_29, o117_30, o117_31, o117_32, o117_33, trivial⟩
theorem o118_0 : OKp l S b Lx xs dC dI cA 118 0 (s_aload 1) := ok_aload_n (k9 := 1) (by decide +kernel) rfl rfl
theorem o118_1 : OKp l S b Lx xs dC dI cA 118 1 (s_invS 115 1 2) := ok_invS rfl rfl (by decide) (hXX 115 (by decide)) w_202 w_203 w_57 c_115 (by decide +kernel) (by decide +kernel) rfl
theorem o118_2 : OKp l S b Lx xs dC dI cA 118 2 (s_istore 2) := ok_istore_n (k9 := 2) (by decide +kernel) rfl rfl
theorem o118_3 : OKp l S b Lx xs dC dI cA 118 3 (s_aload 1) := ok_aload_n (k9 := 1) (by decide +kernel) rfl rfl
theorem o118_4 : OKp l S b Lx xs dC dI cA 118 4 (s_ifnull 7) := ok_ifnull (off := 7) (by decide +kernel) (by decide +kernel) rfl
theorem o118_5 : OKp l S b Lx xs dC dI cA 118 5 (s_iload 2) := ok_iload_n (k9 := 2) (by decide +kernel) rfl rfl
theorem o118_6 : OKp l S b Lx xs dC dI cA 118 6 (s_if (fun x => x = 0) 9) := ok_if_eq (off := 5) (by decide +kernel) (by decide +kernel) rfl
theorem o118_7 : OKp l S b Lx xs dC dI cA 118 7 (s_iload 2) := ok_iload_n (k9 := 2) (by decide +kernel) rfl rfl
theorem o118_8 : OKp l S b Lx xs dC dI cA 118 8 (s_ret) := ok_ret (by decide +kernel) rfl
theorem o118_9 : OKp l S b Lx xs dC dI cA 118 9 (s_aload 1) := ok_aload_n (k9 := 1) (by decide +kernel) rfl rfl
theorem o118_10 : OKp l S b Lx xs dC dI cA 118 10 (s_getI (fun t => t == 8) 3) := ok_getI (by decide +kernel) rfl fd_RX11_61
theorem o118_11 : OKp l S b Lx xs dC dI cA 118 11 (s_const (2)) := ok_iconst (n := 2) (by decide +kernel) (by decide) rfl
theorem o118_12 : OKp l S b Lx xs dC dI cA 118 12 (s_dvr g_irem) := ok_irem (by decide +kernel) rfl
theorem o118_13 : OKp l S b Lx xs dC dI cA 118 13 (s_if (fun x => x ≠ 0) 18) := ok_if_ne (off := 12) (by decide +kernel) (by decide +kernel) rfl
theorem o118_14 : OKp l S b Lx xs dC dI cA 118 14 (s_aload 1) := ok_aload_n (k9 := 1) (by decide +kernel) rfl rfl
theorem o118_15 : OKp l S b Lx xs dC dI cA 118 15 (s_getI (fun t => t == 8) 3) := ok_getI (by decide +kernel) rfl fd_RX11_61
theorem o118_16 : OKp l S b Lx xs dC dI cA 118 16 (s_const (24)) := ok_bipush (n := 24) (by decide +kernel) (by decide) rfl
theorem o118_17 : OKp l S b Lx xs dC dI cA 118 17 (s_icmp (fun x y => x ≤ y) 20) := ok_icmp_le (off := 6) (by decide +kernel) (by decide +kernel) rfl
theorem o118_18 : OKp l S b Lx xs dC dI cA 118 18 (s_const (-13)) := ok_bipush (n := -13) (by decide +kernel) (by decide) rfl
theorem o118_19 : OKp l S b Lx xs dC dI cA 118 19 (s_ret) := ok_ret (by decide +kernel) rfl
theorem o118_20 : OKp l S b Lx xs dC dI cA 118 20 (s_const (0)) := ok_iconst (n := 0) (by decide +kernel) (by decide) rfl
theorem o118_21 : OKp l S b Lx xs dC dI cA 118 21 (s_istore 3) := ok_istore_n (k9 := 3) (by decide +kernel) rfl rfl
theorem o118_22 : OKp l S b Lx xs dC dI cA 118 22 (s_iload 3) := ok_iload_n (k9 := 3) (by decide +kernel) rfl rfl
theorem o118_23 : OKp l S b Lx xs dC dI cA 118 23 (s_aload 1) := ok_aload_n (k9 := 1) (by decide +kernel) rfl rfl
theorem o118_24 : OKp l S b Lx xs dC dI cA 118 24 (s_getI (fun t => t == 8) 3) := ok_getI (by decide +kernel) rfl fd_RX11_61
theorem o118_25 : OKp l S b Lx xs dC dI cA 118 25 (s_icmp (fun x y => y ≤ x) 46) := ok_icmp_ge (off := 44) (by decide +kernel) (by decide +kernel) rfl
theorem o118_26 : OKp l S b Lx xs dC dI cA 118 26 (s_aload 0) := ok_aload_n (k9 := 0) (by decide +kernel) rfl rfl
theorem o118_27 : OKp l S b Lx xs dC dI cA 118 27 (s_getR (fun t => t == 11) 0) := ok_getR (by decide +kernel) rfl fd_RX11_10
theorem o118_28 : OKp l S b Lx xs dC dI cA 118 28 (s_aload 1) := ok_aload_n (k9 := 1) (by decide +kernel) rfl rfl
theorem o118_29 : OKp l S b Lx xs dC dI cA 118 29 (s_iload 3) := ok_iload_n (k9 := 3) (by decide +kernel) rfl rfl
theorem o118_30 : OKp l S b Lx xs dC dI cA 118 30 (s_invV (dv1 8 57 2) [] 1) := ok_invV (dv1_ok vc_RX11_65_8 rfl (by decide) (hXX 57 (by decide))) (by decide +kernel) rfl
theorem o118_31 : OKp l S b Lx xs dC dI cA 118 31 (s_invV (dv1 10 68 2) [] 1) := ok_invV (dv1_ok vc_RX11_106_10 rfl (by decide) (hXX 68 (by decide))) (by decide +kernel) rfl
theorem o118_32 : OKp l S b Lx xs dC dI cA 118 32 (s_ifnull 42) := ok_ifnull (off := 20) (by decide +kernel) (by decide +kernel) rfl
theorem o118_33 : OKp l S b Lx xs dC dI cA 118 33 (s_aload 0) := ok_aload_n (k9 := 0) (by decide +kernel) rfl rfl
theorem o118_34 : OKp l S b Lx xs dC dI cA 118 34 (s_getR (fun t => t == 11) 0) := ok_getR (by decide +kernel) rfl fd_RX11_10
theorem o118_35 : OKp l S b Lx xs dC dI cA 118 35 (s_aload 1) := ok_aload_n (k9 := 1) (by decide +kernel) rfl rfl
theorem o118_36 : OKp l S b Lx xs dC dI cA 118 36 (s_iload 3) := ok_iload_n (k9 := 3) (by decide +kernel) rfl rfl
theorem o118_37 : OKp l S b Lx xs dC dI cA 118 37 (s_const (1)) := ok_iconst (n := 1) (by decide +kernel) (by decide) rfl
theorem o118_38 : OKp l S b Lx xs dC dI cA 118 38 (s_bin g_iadd) := ok_iadd (by decide +kernel) rfl
theorem o118_39 : OKp l S b Lx xs dC dI cA 118 39 (s_invV (dv1 8 57 2) [] 1) := ok_invV (dv1_ok vc_RX11_65_8 rfl (by decide) (hXX 57 (by decide))) (by decide +kernel) rfl
theorem o118_40 : OKp l S b Lx xs dC dI cA 118 40 (s_invV (dv1 10 67 2) [] 1) := ok_invV (dv1_ok vc_RX11_76_10 rfl (by decide) (hXX 67 (by decide))) (by decide +kernel) rfl
theorem o118_41 : OKp l S b Lx xs dC dI cA 118 41 (s_ifnonnull 44) := ok_ifnonnull (off := 6) (by decide +kernel) (by decide +kernel) rfl
theorem o118_42 : OKp l S b Lx xs dC dI cA 118 42 (s_const (-13)) := ok_bipush (n := -13) (by decide +kernel) (by decide) rfl
theorem o118_43 : OKp l S b Lx xs dC dI cA 118 43 (s_ret) := ok_ret (by decide +kernel) rfl
theorem o118_44 : OKp l S b Lx xs dC dI cA 118 44 (s_iinc 3 (2)) := ok_iinc (n := 2) (by decide +kernel) (by decide) rfl
theorem o118_45 : OKp l S b Lx xs dC dI cA 118 45 (s_goto 22) := ok_goto (off := -46) (by decide +kernel) (by decide +kernel)
theorem o118_46 : OKp l S b Lx xs dC dI cA 118 46 (s_const (0)) := ok_iconst (n := 0) (by decide +kernel) (by decide) rfl
theorem o118_47 : OKp l S b Lx xs dC dI cA 118 47 (s_ret) := ok_ret (by decide +kernel) rfl
theorem a118 (hl9 : l.stackTraces = false) : sm_all (OKp l S b Lx xs dC dI cA 118) 0 sc_118 := ⟨o118_0, o118_1, o118_2, o118_3, o118_4, o118_5, o118_6, o118_7, o118_8, o118_9, o118_10, o118_11, o118_12, o118_13, o118_14, o118_15, o118_16, o118_17, o118_18, o118_19, o118_20, o118_21, o118_22, o118_23, o118_24, o118_25, o118_26, o118_27, o118_28, o118_29, o118_30, o118_31, o118_32, o118_33, o118_34, o118_35, o118_36, o118_37, o118_38, o118_39, o118_40, o118_41, o118_42, o118_43, o118_44, o118_45, o118_46, o118_47, trivial⟩
theorem o119_0 : OKp l S b Lx xs dC dI cA 119 0 (s_iload 0) := ok_iload_n (k9 := 0) (by decide +kernel) rfl rfl
theorem o119_1 : OKp l S b Lx xs dC dI cA 119 1 (s_sw [(98, 2), (110, 4), (111, 8), (114, 6), (120, 10)] 12) := ok_lookup (dflt := 61) (ps := #[(98, 51), (110, 53), (111, 57), (114, 55), (120, 59)]) (len := 51) (by decide +kernel) (by decide +kernel) (by decide +kernel) (by decide +kernel)
theorem o119_2 : OKp l S b Lx xs dC dI cA 119 2 (s_const (1)) := ok_iconst (n := 1) (by decide +kernel) (by decide) rfl
theorem o119_3 : OKp l S b Lx xs dC dI cA 119 3 (s_ret) := ok_ret (by decide +kernel) rfl
theorem o119_4 : OKp l S b Lx xs dC dI cA 119 4 (s_const (3)) := ok_iconst (n := 3) (by decide +kernel) (by decide) rfl
theorem o119_5 : OKp l S b Lx xs dC dI cA 119 5 (s_ret) := ok_ret (by decide +kernel) rfl
theorem o119_6 : OKp l S b Lx xs dC dI cA 119 6 (s_const (2)) := ok_iconst (n := 2) (by decide +kernel) (by decide) rfl
theorem o119_7 : OKp l S b Lx xs dC dI cA 119 7 (s_ret) := ok_ret (by decide +kernel) rfl
theorem o119_8 : OKp l S b Lx xs dC dI cA 119 8 (s_const (2)) := ok_iconst (n := 2) (by decide +kernel) (by decide) rfl
theorem o119_9 : OKp l S b Lx xs dC dI cA 119 9 (s_ret) := ok_ret (by decide +kernel) rfl
theorem o119_10 : OKp l S b Lx xs dC dI cA 119 10 (s_const (2)) := ok_iconst (n := 2) (by decide +kernel) (by decide) rfl
theorem o119_11 : OKp l S b Lx xs dC dI cA 119 11 (s_ret) := ok_ret (by decide +kernel) rfl
theorem o119_12 : OKp l S b Lx xs dC dI cA 119 12 (s_const (-1)) := ok_iconst (n := -1) (by decide +kernel) (by decide) rfl
theorem o119_13 : OKp l S b Lx xs dC dI cA 119 13 (s_ret) := ok_ret (by decide +kernel) rfl
theorem a119 (hl9 : l.stackTraces = false) : sm_all (OKp l S b Lx xs dC dI cA 119) 0 sc_119 := ⟨o119_0, o119_1, o119_2, o119_3, o119_4, o119_5, o119_6, o119_7, o119_8, o119_9, o119_10, o119_11, o119_12, o119_13, trivial⟩
theorem o120_0 : OKp l S b Lx xs dC dI cA 120 0 (s_const (0)) := ok_iconst (n := 0) (by decide +kernel) (by decide) rfl
theorem o120_1 : OKp l S b Lx xs dC dI cA 120 1 (s_istore 1) := ok_istore_n (k9 := 1) (by decide +kernel) rfl rfl
theorem o120_2 : OKp l S b Lx xs dC dI cA 120 2 (s_const (0)) := ok_iconst (n := 0) (by decide +kernel) (by decide) rfl
theorem o120_3 : OKp l S b Lx xs dC dI cA 120 3 (s_istore 2) := ok_istore_n (k9 := 2) (by decide +kernel) rfl rfl
theorem o120_4 : OKp l S b Lx xs dC dI cA 120 4 (s_const (0)) := ok_iconst (n := 0) (by decide +kernel) (by decide) rfl
theorem o120_5 : OKp l S b Lx xs dC dI cA 120 5 (s_istore 3) := ok_istore_n (k9 := 3) (by decide +kernel) rfl rfl
theorem o120_6 : OKp l S b Lx xs dC dI cA 120 6 (s_iload 3) := ok_iload_n (k9 := 3) (by decide +kernel) rfl rfl
theorem o120_7 : OKp l S b Lx xs dC dI cA 120 7 (s_aload 0) := ok_aload_n (k9 := 0) (by decide +kernel) rfl rfl
theorem o120_8 : OKp l S b Lx xs dC dI cA 120 8 (s_getI (fun t => t == 8) 3) := ok_getI (by decide +kernel) rfl fd_RX11_61
theorem o120_9 : OKp l S b Lx xs dC dI cA 120 9 (s_icmp (fun x y => y ≤ x) 47) := ok_icmp_ge (off := 74) (by decide +kernel) (by decide +kernel) rfl
theorem o120_10 : OKp l S b Lx xs dC dI cA 120 10 (s_aload 0) := ok_aload_n (k9 := 0) (by decide +kernel) rfl rfl
theorem o120_11 : OKp l S b Lx xs dC dI cA 120 11 (s_iload 3) := ok_iload_n (k9 := 3) (by decide +kernel) rfl rfl
theorem o120_12 : OKp l S b Lx xs dC dI cA 120 12 (s_invV (dv1 8 57 2) [] 1) := ok_invV (dv1_ok vc_RX11_65_8 rfl (by decide) (hXX 57 (by decide))) (by decide +kernel) rfl
theorem o120_13 : OKp l S b Lx xs dC dI cA 120 13 (s_istore 4) := ok_istore (by decide +kernel) rfl
theorem o120_14 : OKp l S b Lx xs dC dI cA 120 14 (s_iload 1) := ok_iload_n (k9 := 1) (by decide +kernel) rfl rfl
theorem o120_15 : OKp l S b Lx xs dC dI cA 120 15 (s_if (fun x => x ≠ 0) 26) := ok_if_ne (off := 20) (by decide +kernel) (by decide +kernel) rfl
theorem o120_16 : OKp l S b Lx xs dC dI cA 120 16 (s_iload 4) := ok_iload (by decide +kernel) rfl
theorem o120_17 : OKp l S b Lx xs dC dI cA 120 17 (s_invS 119 1 1) := ok_invS rfl rfl (by decide) (hXX 119 (by decide)) w_219 w_220 w_57 c_119 (by decide +kernel) (by decide +kernel) rfl
theorem o120_18 : OKp l S b Lx xs dC dI cA 120 18 (s_istore 2) := ok_istore_n (k9 := 2) (by decide +kernel) rfl rfl
theorem o120_19 : OKp l S b Lx xs dC dI cA 120 19 (s_iload 2) := ok_iload_n (k9 := 2) (by decide +kernel) rfl rfl
theorem o120_20 : OKp l S b Lx xs dC dI cA 120 20 (s_if (fun x => 0 ≤ x) 23) := ok_if_ge (off := 5) (by decide +kernel) (by decide +kernel) rfl
theorem o120_21 : OKp l S b Lx xs dC dI cA 120 21 (s_iload 3) := ok_iload_n (k9 := 3) (by decide +kernel) rfl rfl
theorem o120_22 : OKp l S b Lx xs dC dI cA 120 22 (s_ret) := ok_ret (by decide +kernel) rfl
theorem o120_23 : OKp l S b Lx xs dC dI cA 120 23 (s_const (1)) := ok_iconst (n := 1) (by decide +kernel) (by decide) rfl
theorem o120_24 : OKp l S b Lx xs dC dI cA 120 24 (s_istore 1) := ok_istore_n (k9 := 1) (by decide +kernel) rfl rfl
theorem o120_25 : OKp l S b Lx xs dC dI cA 120 25 (s_goto 45) := ok_goto (off := 40) (by decide +kernel) (by decide +kernel)
theorem o120_26 : OKp l S b Lx xs dC dI cA 120 26 (s_iload 2) := ok_iload_n (k9 := 2) (by decide +kernel) rfl rfl
theorem o120_27 : OKp l S b Lx xs dC dI cA 120 27 (s_if (fun x => x ≤ 0) 38) := ok_if_le (off := 25) (by decide +kernel) (by decide +kernel) rfl
theorem o120_28 : OKp l S b Lx xs dC dI cA 120 28 (s_iload 4) := ok_iload (by decide +kernel) rfl
theorem o120_29 : OKp l S b Lx xs dC dI cA 120 29 (s_const (48)) := ok_bipush (n := 48) (by decide +kernel) (by decide) rfl
theorem o120_30 : OKp l S b Lx xs dC dI cA 120 30 (s_icmp (fun x y => x < y) 34) := ok_icmp_lt (off := 10) (by decide +kernel) (by decide +kernel) rfl
theorem o120_31 : OKp l S b Lx xs dC dI cA 120 31 (s_iload 4) := ok_iload (by decide +kernel) rfl
theorem o120_32 : OKp l S b Lx xs dC dI cA 120 32 (s_const (57)) := ok_bipush (n := 57) (by decide +kernel) (by decide) rfl
theorem o120_33 : OKp l S b Lx xs dC dI cA 120 33 (s_icmp (fun x y => x ≤ y) 36) := ok_icmp_le (off := 5) (by decide +kernel) (by decide +kernel) rfl
theorem o120_34 : OKp l S b Lx xs dC dI cA 120 34 (s_iload 3) := ok_iload_n (k9 := 3) (by decide +kernel) rfl rfl
theorem o120_35 : OKp l S b Lx xs dC dI cA 120 35 (s_ret) := ok_ret (by decide +kernel) rfl
theorem o120_36 : OKp l S b Lx xs dC dI cA 120 36 (s_iinc 2 (-1)) := ok_iinc (n := -1) (by decide +kernel) (by decide) rfl
theorem o120_37 : OKp l S b Lx xs dC dI cA 120 37 (s_goto 45) := ok_goto (off := 14) (by decide +kernel) (by decide +kernel)
theorem o120_38 : OKp l S b Lx xs dC dI cA 120 38 (s_iload 4) := ok_iload (by decide +kernel) rfl
theorem o120_39 : OKp l S b Lx xs dC dI cA 120 39 (s_const (59)) := ok_bipush (n := 59) (by decide +kernel) (by decide) rfl
theorem o120_40 : OKp l S b Lx xs dC dI cA 120 40 (s_icmp (fun x y => x = y) 43) := ok_icmp_eq (off := 5) (by decide +kernel) (by decide +kernel) rfl
theorem o120_41 : OKp l S b Lx xs dC dI cA 120 41 (s_iload 3) := ok_iload_n (k9 := 3) (by decide +kernel) rfl rfl
theorem o120_42 : OKp l S b Lx xs dC dI cA 120 42 (s_ret) := ok_ret (by decide +kernel) rfl
theorem o120_43 : OKp l S b Lx xs dC dI cA 120 43 (s_const (0)) := ok_iconst (n := 0) (by decide +kernel) (by decide) rfl
theorem o120_44 : OKp l S b Lx xs dC dI cA 120 44 (s_istore 1) := ok_istore_n (k9 := 1) (by decide +kernel) rfl rfl
theorem o120_45 : OKp l S b Lx xs dC dI cA 120 45 (s_iinc 3 (1)) := ok_iinc (n := 1) (by decide +kernel) (by decide) rfl
theorem o120_46 : OKp l S b Lx xs dC dI cA 120 46 (s_goto 6) := ok_goto (off := -76) (by decide +kernel) (by decide +kernel)
theorem o120_47 : OKp l S b Lx xs dC dI cA 120 47 (s_iload 1) := ok_iload_n (k9 := 1) (by decide +kernel) rfl rfl
theorem o120_48 : OKp l S b Lx xs dC dI cA 120 48 (s_if (fun x => x ≠ 0) 52) := ok_if_ne (off := 10) (by decide +kernel) (by decide +kernel) rfl
theorem o120_49 : OKp l S b Lx xs dC dI cA 120 49 (s_aload 0) := ok_aload_n (k9 := 0) (by decide +kernel) rfl rfl
theorem o120_50 : OKp l S b Lx xs dC dI cA 120 50 (s_getI (fun t => t == 8) 3) := ok_getI (by decide +kernel) rfl fd_RX11_61
theorem o120_51 : OKp l S b Lx xs dC dI cA 120 51 (s_if (fun x => x ≠ 0) 55) := ok_if_ne (off := 10) (by decide +kernel) (by decide +kernel) rfl
theorem o120_52 : OKp l S b Lx xs dC dI cA 120 52 (s_aload 0) := ok_aload_n (k9 := 0) (by decide +kernel) rfl rfl
theorem o120_53 : OKp l S b Lx xs dC dI cA 120 53 (s_getI (fun t => t == 8) 3) := ok_getI (by decide +kernel) rfl fd_RX11_61
theorem o120_54 : OKp l S b Lx xs dC dI cA 120 54 (s_goto 56) := ok_goto (off := 5) (by decide +kernel) (by decide +kernel)
theorem o120_55 : OKp l S b Lx xs dC dI cA 120 55 (s_const (-4)) := ok_bipush (n := -4) (by decide +kernel) (by decide) rfl
theorem o120_56 : OKp l S b Lx xs dC dI cA 120 56 (s_ret) := ok_ret (by decide +kernel) rfl
theorem a120 (hl9 : l.stackTraces = false) : sm_all (OKp l S b Lx xs dC dI cA 120) 0 sc_120 := ⟨o120_0, o120_1, o120_2, o120_3, o120_4, o120_5, o120_6, o120_7, o120_8, o120_9, o120_10, o120_11, o120_12, o120_13, o120_14, o120_15, o120_16, o120_17, o120_18, o120_19, o120_20, o120_21, o120_22, o120_23, o120_24, o120_25, o120_26, o120_27, o120_28, o120_29, o120_30, o120_31, o120_32, o120_33, o120_34, o120_35, o120_36, o120_37, o120_38, o120_39, o120_40, o120_41, o120_42, o120_43, o120_44, o120_45, o120_46, o120_47, o120_48, o120_49, o120_50, o120_51, o120_52, o120_53, o120_54, o120_55, o120_56, trivial⟩
theorem o121_0 : OKp l S b Lx xs dC dI cA 121 0 (s_const (0)) := ok_iconst (n := 0) (by decide +kernel) (by decide) rfl
theorem o121_1 : OKp l S b Lx xs dC dI cA 121 1 (s_istore 1) := ok_istore_n (k9 := 1) (by decide +kernel) rfl rfl
theorem o121_2 : OKp l S b Lx xs dC dI cA 121 2 (s_iload 1) := ok_iload_n (k9 := 1) (by decide +kernel) rfl rfl
theorem o121_3 : OKp l S b Lx xs dC dI cA 121 3 (s_aload 0) := ok_aload_n (k9 := 0) (by decide +kernel) rfl rfl
theorem o121_4 : OKp l S b Lx xs dC dI cA 121 4 (s_getR (fun t => t == 11) 5) := ok_getR (by decide +kernel) rfl fd_RX11_32
theorem o121_5 : OKp l S b Lx xs dC dI cA 121 5 (s_alen) := ok_alen (by decide +kernel) rfl
theorem o121_6 : OKp l S b Lx xs dC dI cA 121 6 (s_icmp (fun x y => y ≤ x) 24) := ok_icmp_ge (off := 36) (by decide +kernel) (by decide +kernel) rfl
theorem o121_7 : OKp l S b Lx xs dC dI cA 121 7 (s_aload 0) := ok_aload_n (k9 := 0) (by decide +kernel) rfl rfl
theorem o121_8 : OKp l S b Lx xs dC dI cA 121 8 (s_getR (fun t => t == 11) 0) := ok_getR (by decide +kernel) rfl fd_RX11_10
theorem o121_9 : OKp l S b Lx xs dC dI cA 121 9 (s_iload 1) := ok_iload_n (k9 := 1) (by decide +kernel) rfl rfl
theorem o121_10 : OKp l S b Lx xs dC dI cA 121 10 (s_invV (dv1 10 67 2) [] 1) := ok_invV (dv1_ok vc_RX11_76_10 rfl (by decide) (hXX 67 (by decide))) (by decide +kernel) rfl
theorem o121_11 : OKp l S b Lx xs dC dI cA 121 11 (s_astore 2) := ok_astore_n (k9 := 2) (by decide +kernel) rfl rfl
theorem o121_12 : OKp l S b Lx xs dC dI cA 121 12 (s_aload 0) := ok_aload_n (k9 := 0) (by decide +kernel) rfl rfl
theorem o121_13 : OKp l S b Lx xs dC dI cA 121 13 (s_getR (fun t => t == 11) 5) := ok_getR (by decide +kernel) rfl fd_RX11_32
theorem o121_14 : OKp l S b Lx xs dC dI cA 121 14 (s_iload 1) := ok_iload_n (k9 := 1) (by decide +kernel) rfl rfl
theorem o121_15 : OKp l S b Lx xs dC dI cA 121 15 (s_aload 2) := ok_aload_n (k9 := 2) (by decide +kernel) rfl rfl
theorem o121_16 : OKp l S b Lx xs dC dI cA 121 16 (s_ifnonnull 19) := ok_ifnonnull (off := 7) (by decide +kernel) (by decide +kernel) rfl
theorem o121_17 : OKp l S b Lx xs dC dI cA 121 17 (s_const (0)) := ok_iconst (n := 0) (by decide +kernel) (by decide) rfl
theorem o121_18 : OKp l S b Lx xs dC dI cA 121 18 (s_goto 21) := ok_goto (off := 7) (by decide +kernel) (by decide +kernel)
theorem o121_19 : OKp l S b Lx xs dC dI cA 121 19 (s_aload 2) := ok_aload_n (k9 := 2) (by decide +kernel) rfl rfl
theorem o121_20 : OKp l S b Lx xs dC dI cA 121 20 (s_getI (fun t => t == 1) 3) := ok_getI (by decide +kernel) rfl fd_RX11_85
theorem o121_21 : OKp l S b Lx xs dC dI cA 121 21 (s_iast) := ok_iast (by decide +kernel) rfl
theorem o121_22 : OKp l S b Lx xs dC dI cA 121 22 (s_iinc 1 (1)) := ok_iinc (n := 1) (by decide +kernel) (by decide) rfl
theorem o121_23 : OKp l S b Lx xs dC dI cA 121 23 (s_goto 2) := ok_goto (off := -39) (by decide +kernel) (by decide +kernel)
theorem o121_24 : OKp l S b Lx xs dC dI cA 121 24 (s_vret) := ok_vret (by decide +kernel) rfl
theorem a121 (hl9 : l.stackTraces = false) : sm_all (OKp l S b Lx xs dC dI cA 121) 0 sc_121 := ⟨o121_0, o121_1, o121_2, o121_3, o121_4, o121_5, o121_6, o121_7, o121_8, o121_9, o121_10, o121_11, o121_12, o121_13, o121_14, o121_15, o121_16, o121_17, o121_18, o121_19, o121_20, o121_21, o121_22, o121_23, o121_24, trivial⟩
theorem o122_0 : OKp l S b Lx xs dC dI cA 122 0 (s_aload 0) := ok_aload_n (k9 := 0) (by decide +kernel) rfl rfl
theorem o122_1 : OKp l S b Lx xs dC dI cA 122 1 (s_getR (fun t => t == 11) 0) := ok_getR (by decide +kernel) rfl fd_RX11_10
theorem o122_2 : OKp l S b Lx xs dC dI cA 122 2 (s_iload 2) := ok_iload_n (k9 := 2) (by decide +kernel) rfl rfl
theorem o122_3 : OKp l S b Lx xs dC dI cA 122 3 (s_invV (dv1 10 67 2) [] 1) := ok_invV (dv1_ok vc_RX11_76_10 rfl (by decide) (hXX 67 (by decide))) (by decide +kernel) rfl
theorem o122_4 : OKp l S b Lx xs dC dI cA 122 4 (s_astore 3) := ok_astore_n (k9 := 3) (by decide +kernel) rfl rfl
theorem o122_5 : OKp l S b Lx xs dC dI cA 122 5 (s_aload 1) := ok_aload_n (k9 := 1) (by decide +kernel) rfl rfl
theorem o122_6 : OKp l S b Lx xs dC dI cA 122 6 (s_ifnull 16) := ok_ifnull (off := 20) (by decide +kernel) (by decide +kernel) rfl
theorem o122_7 : OKp l S b Lx xs dC dI cA 122 7 (s_aload 3) := ok_aload_n (k9 := 3) (by decide +kernel) rfl rfl
theorem o122_8 : OKp l S b Lx xs dC dI cA 122 8 (s_ifnull 16) := ok_ifnull (off := 16) (by decide +kernel) (by decide +kernel) rfl
theorem o122_9 : OKp l S b Lx xs dC dI cA 122 9 (s_iload 2) := ok_iload_n (k9 := 2) (by decide +kernel) rfl rfl
theorem o122_10 : OKp l S b Lx xs dC dI cA 122 10 (s_if (fun x => x < 0) 16) := ok_if_lt (off := 12) (by decide +kernel) (by decide +kernel) rfl
theorem o122_11 : OKp l S b Lx xs dC dI cA 122 11 (s_iload 2) := ok_iload_n (k9 := 2) (by decide +kernel) rfl rfl
theorem o122_12 : OKp l S b Lx xs dC dI cA 122 12 (s_aload 0) := ok_aload_n (k9 := 0) (by decide +kernel) rfl rfl
theorem o122_13 : OKp l S b Lx xs dC dI cA 122 13 (s_getR (fun t => t == 11) 5) := ok_getR (by decide +kernel) rfl fd_RX11_32
theorem o122_14 : OKp l S b Lx xs dC dI cA 122 14 (s_alen) := ok_alen (by decide +kernel) rfl
theorem o122_15 : OKp l S b Lx xs dC dI cA 122 15 (s_icmp (fun x y => x < y) 18) := ok_icmp_lt (off := 5) (by decide +kernel) (by decide +kernel) rfl
theorem o122_16 : OKp l S b Lx xs dC dI cA 122 16 (s_const (0)) := ok_iconst (n := 0) (by decide +kernel) (by decide) rfl
theorem o122_17 : OKp l S b Lx xs dC dI cA 122 17 (s_ret) := ok_ret (by decide +kernel) rfl
theorem o122_18 : OKp l S b Lx xs dC dI cA 122 18 (s_aload 1) := ok_aload_n (k9 := 1) (by decide +kernel) rfl rfl
theorem o122_19 : OKp l S b Lx xs dC dI cA 122 19 (s_aload 3) := ok_aload_n (k9 := 3) (by decide +kernel) rfl rfl
theorem o122_20 : OKp l S b Lx xs dC dI cA 122 20 (s_aload 0) := ok_aload_n (k9 := 0) (by decide +kernel) rfl rfl
theorem o122_21 : OKp l S b Lx xs dC dI cA 122 21 (s_getR (fun t => t == 11) 5) := ok_getR (by decide +kernel) rfl fd_RX11_32
theorem o122_22 : OKp l S b Lx xs dC dI cA 122 22 (s_iload 2) := ok_iload_n (k9 := 2) (by decide +kernel) rfl rfl
theorem o122_23 : OKp l S b Lx xs dC dI cA 122 23 (s_iald) := ok_iald (by decide +kernel) rfl
theorem o122_24 : OKp l S b Lx xs dC dI cA 122 24 (s_invV dv_3 [] 2) := ok_invV (by intro t y ml h; unfold dv_3 at h; by_cases h0 : t = 0; (subst h0; simp at h; obtain ⟨rfl, rfl⟩ := h; exact ⟨vc_RX11_125_0, rfl, by decide, hXX 47 (by decide)⟩); by_cases h2 : t = 2; (subst h2; simp at h; obtain ⟨rfl, rfl⟩ := h; exact ⟨vc_RX11_125_2, rfl, by decide, hXX 47 (by decide)⟩); by_cases h3 : t = 3; (subst h3; simp at h; obtain ⟨rfl, rfl⟩ := h; exact ⟨vc_RX11_125_3, rfl, by decide, hXX 47 (by decide)⟩); by_cases h4 : t = 4; (subst h4; simp at h; obtain ⟨rfl, rfl⟩ := h; exact ⟨vc_RX11_125_4, rfl, by decide, hXX 47 (by decide)⟩); by_cases h5 : t = 5; (subst h5; simp at h; obtain ⟨rfl, rfl⟩ := h; exact ⟨vc_RX11_125_5, rfl, by decide, hXX 47 (by decide)⟩); by_cases h6 : t = 6; (subst h6; simp at h; obtain ⟨rfl, rfl⟩ := h; exact ⟨vc_RX11_125_6, rfl, by decide, hXX 40 (by decide)⟩); by_cases h7 : t = 7; (subst h7; simp at h; obtain ⟨rfl, rfl⟩ := h; exact ⟨vc_RX11_125_7, rfl, by decide, hXX 47 (by decide)⟩); by_cases h9 : t = 9; (subst h9; simp at h; obtain ⟨rfl, rfl⟩ := h; exact ⟨vc_RX11_125_9, rfl, by decide, hXX 61 (by decide)⟩); simp [h0, h2, h3, h4, h5, h6, h7, h9] at h) (by decide +kernel) rfl
theorem o122_25 : OKp l S b Lx xs dC dI cA 122 25 (s_istore 4) := ok_istore (by decide +kernel) rfl
theorem o122_26 : OKp l S b Lx xs dC dI cA 122 26 (s_aload 0) := ok_aload_n (k9 := 0) (by decide +kernel) rfl rfl
theorem o122_27 : OKp l S b Lx xs dC dI cA 122 27 (s_getR (fun t => t == 11) 5) := ok_getR (by decide +kernel) rfl fd_RX11_32
theorem o122_28 : OKp l S b Lx xs dC dI cA 122 28 (s_iload 2) := ok_iload_n (k9 := 2) (by decide +kernel) rfl rfl
theorem o122_29 : OKp l S b Lx xs dC dI cA 122 29 (s_dup2) := ok_dup2 (by decide +kernel) rfl
theorem o122_30 : OKp l S b Lx xs dC dI cA 122 30 (s_iald) := ok_iald (by decide +kernel) rfl
theorem o122_31 : OKp l S b Lx xs dC dI cA 122 31 (s_aload 1) := ok_aload_n (k9 := 1) (by decide +kernel) rfl rfl
theorem o122_32 : OKp l S b Lx xs dC dI cA 122 32 (s_aload 3) := ok_aload_n (k9 := 3) (by decide +kernel) rfl rfl
theorem o122_33 : OKp l S b Lx xs dC dI cA 122 33 (s_aload 0) := ok_aload_n (k9 := 0) (by decide +kernel) rfl rfl
theorem o122_34 : OKp l S b Lx xs dC dI cA 122 34 (s_getR (fun t => t == 11) 5) := ok_getR (by decide +kernel) rfl fd_RX11_32
theorem o122_35 : OKp l S b Lx xs dC dI cA 122 35 (s_iload 2) := ok_iload_n (k9 := 2) (by decide +kernel) rfl rfl
theorem o122_36 : OKp l S b Lx xs dC dI cA 122 36 (s_iald) := ok_iald (by decide +kernel) rfl
theorem o122_37 : OKp l S b Lx xs dC dI cA 122 37 (s_invV dv_4 [] 2) := ok_invV (by intro t y ml h; unfold dv_4 at h; by_cases h0 : t = 0; (subst h0; simp at h; obtain ⟨rfl, rfl⟩ := h; exact ⟨vc_RX11_176_0, rfl, by decide, hXX 49 (by decide)⟩); by_cases h2 : t = 2; (subst h2; simp at h; obtain ⟨rfl, rfl⟩ := h; exact ⟨vc_RX11_176_2, rfl, by decide, hXX 21 (by decide)⟩); by_cases h3 : t = 3; (subst h3; simp at h; obtain ⟨rfl, rfl⟩ := h; exact ⟨vc_RX11_176_3, rfl, by decide, hXX 49 (by decide)⟩); by_cases h4 : t = 4; (subst h4; simp at h; obtain ⟨rfl, rfl⟩ := h; exact ⟨vc_RX11_176_4, rfl, by decide, hXX 49 (by decide)⟩); by_cases h5 : t = 5; (subst h5; simp at h; obtain ⟨rfl, rfl⟩ := h; exact ⟨vc_RX11_176_5, rfl, by decide, hXX 49 (by decide)⟩); by_cases h6 : t = 6; (subst h6; simp at h; obtain ⟨rfl, rfl⟩ := h; exact ⟨vc_RX11_176_6, rfl, by decide, hXX 49 (by decide)⟩); by_cases h7 : t = 7; (subst h7; simp at h; obtain ⟨rfl, rfl⟩ := h; exact ⟨vc_RX11_176_7, rfl, by decide, hXX 49 (by decide)⟩); by_cases h9 : t = 9; (subst h9; simp at h; obtain ⟨rfl, rfl⟩ := h; exact ⟨vc_RX11_176_9, rfl, by decide, hXX 49 (by decide)⟩); simp [h0, h2, h3, h4, h5, h6, h7, h9] at h) (by decide +kernel) rfl
theorem o122_38 : OKp l S b Lx xs dC dI cA 122 38 (s_const (-1)) := ok_iconst (n := -1) (by decide +kernel) (by decide) rfl
theorem o122_39 : OKp l S b Lx xs dC dI cA 122 39 (s_bin g_ixor) := ok_ixor (by decide +kernel) rfl
theorem o122_40 : OKp l S b Lx xs dC dI cA 122 40 (s_bin g_iand) := ok_iand (by decide +kernel) rfl
theorem o122_41 : OKp l S b Lx xs dC dI cA 122 41 (s_iast) := ok_iast (by decide +kernel) rfl
theorem o122_42 : OKp l S b Lx xs dC dI cA 122 42 (s_iload 4) := ok_iload (by decide +kernel) rfl
theorem o122_43 : OKp l S b Lx xs dC dI cA 122 43 (s_ret) := ok_ret (by decide +kernel) rfl
theorem a122 (hl9 : l.stackTraces = false) : sm_all (OKp l S b Lx xs dC dI cA 122) 0 sc_122 := ⟨o122_0, o122_1, o122_2, o122_3, o122_4, o122_5, o122_6, o122_7, o122_8, o122_9, o122_10, o122_11, o122_12, o122_13, o122_14, o122_15, o122_16, o122_17, o122_18, o122_19, o122_20, o122_21, o122_22, o122_23, o122_24, o122_25, o122_26, o122_27, o122_28, o122_29, o122_30, o122_31, o122_32, o122_33, o122_34, o122_35, o122_36, o122_37, o122_38, o122_39, o122_40, o122_41, o122_42, o122_43, trivial⟩
theorem o123_0 : OKp l S b Lx xs dC dI cA 123 0 (s_const (0)) := ok_iconst (n := 0) (by decide +kernel) (by decide) rfl
theorem o123_1 : OKp l S b Lx xs dC dI cA 123 1 (s_istore 1) := ok_istore_n (k9 := 1) (by decide +kernel) rfl rfl
theorem o123_2 : OKp l S b Lx xs dC dI cA 123 2 (s_const (0)) := ok_iconst (n := 0) (by decide +kernel) (by decide) rfl
theorem o123_3 : OKp l S b Lx xs dC dI cA 123 3 (s_istore 2) := ok_istore_n (k9 := 2) (by decide +kernel) rfl rfl
theorem o123_4 : OKp l S b Lx xs dC dI cA 123 4 (s_iload 2) := ok_iload_n (k9 := 2) (by decide +kernel) rfl rfl
theorem o123_5 : OKp l S b Lx xs dC dI cA 123 5 (s_aload 0) := ok_aload_n (k9 := 0) (by decide +kernel) rfl rfl
theorem o123_6 : OKp l S b Lx xs dC dI cA 123 6 (s_getR (fun t => t == 11) 5) := ok_getR (by decide +kernel) rfl fd_RX11_32
theorem o123_7 : OKp l S b Lx xs dC dI cA 123 7 (s_alen) := ok_alen (by decide +kernel) rfl
theorem o123_8 : OKp l S b Lx xs dC dI cA 123 8 (s_icmp (fun x y => y ≤ x) 19) := ok_icmp_ge (off := 21) (by decide +kernel) (by decide +kernel) rfl
theorem o123_9 : OKp l S b Lx xs dC dI cA 123 9 (s_iload 1) := ok_iload_n (k9 := 1) (by decide +kernel) rfl rfl
theorem o123_10 : OKp l S b Lx xs dC dI cA 123 10 (s_aload 0) := ok_aload_n (k9 := 0) (by decide +kernel) rfl rfl
theorem o123_11 : OKp l S b Lx xs dC dI cA 123 11 (s_getR (fun t => t == 11) 5) := ok_getR (by decide +kernel) rfl fd_RX11_32
theorem o123_12 : OKp l S b Lx xs dC dI cA 123 12 (s_iload 2) := ok_iload_n (k9 := 2) (by decide +kernel) rfl rfl
theorem o123_13 : OKp l S b Lx xs dC dI cA 123 13 (s_iald) := ok_iald (by decide +kernel) rfl
theorem o123_14 : OKp l S b Lx xs dC dI cA 123 14 (s_invS 224 1 1) := ok_invS rfl rfl (by decide) (hXX 224 (by decide)) w_478 w_392 w_71 c_224 (by decide +kernel) (by decide +kernel) rfl
theorem o123_15 : OKp l S b Lx xs dC dI cA 123 15 (s_bin g_iadd) := ok_iadd (by decide +kernel) rfl
theorem o123_16 : OKp l S b Lx xs dC dI cA 123 16 (s_istore 1) := ok_istore_n (k9 := 1) (by decide +kernel) rfl rfl
theorem o123_17 : OKp l S b Lx xs dC dI cA 123 17 (s_iinc 2 (1)) := ok_iinc (n := 1) (by decide +kernel) (by decide) rfl
theorem o123_18 : OKp l S b Lx xs dC dI cA 123 18 (s_goto 4) := ok_goto (off := -24) (by decide +kernel) (by decide +kernel)
theorem o123_19 : OKp l S b Lx xs dC dI cA 123 19 (s_iload 1) := ok_iload_n (k9 := 1) (by decide +kernel) rfl rfl
theorem o123_20 : OKp l S b Lx xs dC dI cA 123 20 (s_ret) := ok_ret (by decide +kernel) rfl
theorem a123 (hl9 : l.stackTraces = false) : sm_all (OKp l S b Lx xs dC dI cA 123) 0 sc_123 := ⟨o123_0, o123_1, o123_2, o123_3, o123_4, o123_5, o123_6, o123_7, o123_8, o123_9, o123_10, o123_11, o123_12, o123_13, o123_14, o123_15, o123_16, o123_17, o123_18, o123_19, o123_20, trivial⟩
theorem o124_0 : OKp l S b Lx xs dC dI cA 124 0 (s_aload 0) := ok_aload_n (k9 := 0) (by decide +kernel) rfl rfl
theorem o124_1 : OKp l S b Lx xs dC dI cA 124 1 (s_invV (dv1 11 121 3) [] 0) := ok_invV (dv1_ok vc_RX11_187_11 rfl (by decide) (hXX 121 (by decide))) (by decide +kernel) rfl
theorem o124_2 : OKp l S b Lx xs dC dI cA 124 2 (s_const (0)) := ok_iconst (n := 0) (by decide +kernel) (by decide) rfl
theorem o124_3 : OKp l S b Lx xs dC dI cA 124 3 (s_istore 4) := ok_istore (by decide +kernel) rfl
theorem o124_4 : OKp l S b Lx xs dC dI cA 124 4 (s_const (0)) := ok_iconst (n := 0) (by decide +kernel) (by decide) rfl
theorem o124_5 : OKp l S b Lx xs dC dI cA 124 5 (s_istore 5) := ok_istore (by decide +kernel) rfl
theorem o124_6 : OKp l S b Lx xs dC dI cA 124 6 (s_iload 5) := ok_iload (by decide +kernel) rfl
theorem o124_7 : OKp l S b Lx xs dC dI cA 124 7 (s_const (1)) := ok_iconst (n := 1) (by decide +kernel) (by decide) rfl
theorem o124_8 : OKp l S b Lx xs dC dI cA 124 8 (s_bin g_iadd) := ok_iadd (by decide +kernel) rfl
theorem o124_9 : OKp l S b Lx xs dC dI cA 124 9 (s_aload 1) := ok_aload_n (k9 := 1) (by decide +kernel) rfl rfl
theorem o124_10 : OKp l S b Lx xs dC dI cA 124 10 (s_getI (fun t => t == 8) 3) := ok_getI (by decide +kernel) rfl fd_RX11_61
theorem o124_11 : OKp l S b Lx xs dC dI cA 124 11 (s_icmp (fun x y => y ≤ x) 41) := ok_icmp_ge (off := 61) (by decide +kernel) (by decide +kernel) rfl
theorem o124_12 : OKp l S b Lx xs dC dI cA 124 12 (s_aload 1) := ok_aload_n (k9 := 1) (by decide +kernel) rfl rfl
theorem o124_13 : OKp l S b Lx xs dC dI cA 124 13 (s_iload 5) := ok_iload (by decide +kernel) rfl
theorem o124_14 : OKp l S b Lx xs dC dI cA 124 14 (s_invV (dv1 8 57 2) [] 1) := ok_invV (dv1_ok vc_RX11_65_8 rfl (by decide) (hXX 57 (by decide))) (by decide +kernel) rfl
theorem o124_15 : OKp l S b Lx xs dC dI cA 124 15 (s_istore 6) := ok_istore (by decide +kernel) rfl
theorem o124_16 : OKp l S b Lx xs dC dI cA 124 16 (s_iload 6) := ok_iload (by decide +kernel) rfl
theorem o124_17 : OKp l S b Lx xs dC dI cA 124 17 (s_iload 3) := ok_iload_n (k9 := 3) (by decide +kernel) rfl rfl
theorem o124_18 : OKp l S b Lx xs dC dI cA 124 18 (s_icmp (fun x y => x = y) 39) := ok_icmp_eq (off := 41) (by decide +kernel) (by decide +kernel) rfl
theorem o124_19 : OKp l S b Lx xs dC dI cA 124 19 (s_aload 2) := ok_aload_n (k9 := 2) (by decide +kernel) rfl rfl
theorem o124_20 : OKp l S b Lx xs dC dI cA 124 20 (s_ifnonnull 26) := ok_ifnonnull (off := 15) (by decide +kernel) (by decide +kernel) rfl
theorem o124_21 : OKp l S b Lx xs dC dI cA 124 21 (s_aload 0) := ok_aload_n (k9 := 0) (by decide +kernel) rfl rfl
theorem o124_22 : OKp l S b Lx xs dC dI cA 124 22 (s_getR (fun t => t == 11) 0) := ok_getR (by decide +kernel) rfl fd_RX11_10
theorem o124_23 : OKp l S b Lx xs dC dI cA 124 23 (s_iload 6) := ok_iload (by decide +kernel) rfl
theorem o124_24 : OKp l S b Lx xs dC dI cA 124 24 (s_invV (dv1 10 68 2) [] 1) := ok_invV (dv1_ok vc_RX11_106_10 rfl (by decide) (hXX 68 (by decide))) (by decide +kernel) rfl
theorem o124_25 : OKp l S b Lx xs dC dI cA 124 25 (s_goto 27) := ok_goto (off := 4) (by decide +kernel) (by decide +kernel)
theorem o124_26 : OKp l S b Lx xs dC dI cA 124 26 (s_aload 2) := ok_aload_n (k9 := 2) (by decide +kernel) rfl rfl
theorem o124_27 : OKp l S b Lx xs dC dI cA 124 27 (s_astore 7) := ok_astore (by decide +kernel) rfl
theorem o124_28 : OKp l S b Lx xs dC dI cA 124 28 (s_iload 4) := ok_iload (by decide +kernel) rfl
theorem o124_29 : OKp l S b Lx xs dC dI cA 124 29 (s_aload 0) := ok_aload_n (k9 := 0) (by decide +kernel) rfl rfl
theorem o124_30 : OKp l S b Lx xs dC dI cA 124 30 (s_aload 7) := ok_aload (by decide +kernel) rfl
theorem o124_31 : OKp l S b Lx xs dC dI cA 124 31 (s_aload 1) := ok_aload_n (k9 := 1) (by decide +kernel) rfl rfl
theorem o124_32 : OKp l S b Lx xs dC dI cA 124 32 (s_iload 5) := ok_iload (by decide +kernel) rfl
theorem o124_33 : OKp l S b Lx xs dC dI cA 124 33 (s_const (1)) := ok_iconst (n := 1) (by decide +kernel) (by decide) rfl
theorem o124_34 : OKp l S b Lx xs dC dI cA 124 34 (s_bin g_iadd) := ok_iadd (by decide +kernel) rfl
theorem o124_35 : OKp l S b Lx xs dC dI cA 124 35 (s_invV (dv1 8 57 2) [] 1) := ok_invV (dv1_ok vc_RX11_65_8 rfl (by decide) (hXX 57 (by decide))) (by decide +kernel) rfl
theorem o124_36 : OKp l S b Lx xs dC dI cA 124 36 (s_invV (dv1 11 122 5) [] 2) := ok_invV (dv1_ok vc_RX11_196_11 rfl (by decide) (hXX 122 (by decide))) (by decide +kernel) rfl
theorem o124_37 : OKp l S b Lx xs dC dI cA 124 37 (s_bin g_iadd) := ok_iadd (by decide +kernel) rfl
theorem o124_38 : OKp l S b Lx xs dC dI cA 124 38 (s_istore 4) := ok_istore (by decide +kernel) rfl
theorem o124_39 : OKp l S b Lx xs dC dI cA 124 39 (s_iinc 5 (2)) := ok_iinc (n := 2) (by decide +kernel) (by decide) rfl
theorem o124_40 : OKp l S b Lx xs dC dI cA 124 40 (s_goto 6) := ok_goto (off := -66) (by decide +kernel) (by decide +kernel)
theorem o124_41 : OKp l S b Lx xs dC dI cA 124 41 (s_iload 4) := ok_iload (by decide +kernel) rfl
theorem o124_42 : OKp l S b Lx xs dC dI cA 124 42 (s_ret) := ok_ret (by decide +kernel) rfl
theorem a124 (hl9 : l.stackTraces = false) : sm_all (OKp l S b Lx xs dC dI cA 124) 0 sc_124 := ⟨o124_0, o124_1, o124_2, o124_3, o124_4, o124_5, o124_6, o124_7, o124_8, o124_9, o124_10, o124_11, o124_12, o124_13, o124_14, o124_15, o124_16, o124_17, o124_18, o124_19, o124_20, o124_21, o124_22, o124_23, o124_24, o124_25, o124_26, o124_27, o124_28, o124_29, o124_30, o124_31, o124_32, o124_33, o124_34, o124_35, o124_36, o124_37, o124_38, o124_39, o124_40, o124_41, o124_42, trivial⟩
theorem o125_0 : OKp l S b Lx xs dC dI cA 125 0 (s_const (0)) := ok_iconst (n := 0) (by decide +kernel) (by decide) rfl
theorem o125_1 : OKp l S b Lx xs dC dI cA 125 1 (s_istore 4) := ok_istore (by decide +kernel) rfl
theorem o125_2 : OKp l S b Lx xs dC dI cA 125 2 (s_iload 3) := ok_iload_n (k9 := 3) (by decide +kernel) rfl rfl
theorem o125_3 : OKp l S b Lx xs dC dI cA 125 3 (s_istore 5) := ok_istore (by decide +kernel) rfl
theorem o125_4 : OKp l S b Lx xs dC dI cA 125 4 (s_const (0)) := ok_iconst (n := 0) (by decide +kernel) (by decide) rfl
theorem o125_5 : OKp l S b Lx xs dC dI cA 125 5 (s_istore 6) := ok_istore (by decide +kernel) rfl
theorem o125_6 : OKp l S b Lx xs dC dI cA 125 6 (s_iload 6) := ok_iload (by decide +kernel) rfl
theorem o125_7 : OKp l S b Lx xs dC dI cA 125 7 (s_aload 1) := ok_aload_n (k9 := 1) (by decide +kernel) rfl rfl
theorem o125_8 : OKp l S b Lx xs dC dI cA 125 8 (s_getI (fun t => t == 8) 3) := ok_getI (by decide +kernel) rfl fd_RX11_61
theorem o125_9 : OKp l S b Lx xs dC dI cA 125 9 (s_icmp (fun x y => y ≤ x) 37) := ok_icmp_ge (off := 57) (by decide +kernel) (by decide +kernel) rfl
theorem o125_10 : OKp l S b Lx xs dC dI cA 125 10 (s_aload 0) := ok_aload_n (k9 := 0) (by decide +kernel) rfl rfl
theorem o125_11 : OKp l S b Lx xs dC dI cA 125 11 (s_getR (fun t => t == 11) 0) := ok_getR (by decide +kernel) rfl fd_RX11_10
theorem o125_12 : OKp l S b Lx xs dC dI cA 125 12 (s_aload 1) := ok_aload_n (k9 := 1) (by decide +kernel) rfl rfl
theorem o125_13 : OKp l S b Lx xs dC dI cA 125 13 (s_iload 6) := ok_iload (by decide +kernel) rfl
theorem o125_14 : OKp l S b Lx xs dC dI cA 125 14 (s_invV (dv1 8 57 2) [] 1) := ok_invV (dv1_ok vc_RX11_65_8 rfl (by decide) (hXX 57 (by decide))) (by decide +kernel) rfl
theorem o125_15 : OKp l S b Lx xs dC dI cA 125 15 (s_invV (dv1 10 68 2) [] 1) := ok_invV (dv1_ok vc_RX11_106_10 rfl (by decide) (hXX 68 (by decide))) (by decide +kernel) rfl
theorem o125_16 : OKp l S b Lx xs dC dI cA 125 16 (s_astore 7) := ok_astore (by decide +kernel) rfl
theorem o125_17 : OKp l S b Lx xs dC dI cA 125 17 (s_aload 7) := ok_aload (by decide +kernel) rfl
theorem o125_18 : OKp l S b Lx xs dC dI cA 125 18 (s_ifnull 35) := ok_ifnull (off := 31) (by decide +kernel) (by decide +kernel) rfl
theorem o125_19 : OKp l S b Lx xs dC dI cA 125 19 (s_iload 4) := ok_iload (by decide +kernel) rfl
theorem o125_20 : OKp l S b Lx xs dC dI cA 125 20 (s_aload 7) := ok_aload (by decide +kernel) rfl
theorem o125_21 : OKp l S b Lx xs dC dI cA 125 21 (s_aload 2) := ok_aload_n (k9 := 2) (by decide +kernel) rfl rfl
theorem o125_22 : OKp l S b Lx xs dC dI cA 125 22 (s_iload 5) := ok_iload (by decide +kernel) rfl
theorem o125_23 : OKp l S b Lx xs dC dI cA 125 23 (s_invV dv_3 [] 2) := ok_invV (by intro t y ml h; unfold dv_3 at h; by_cases h0 : t = 0; (subst h0; simp at h; obtain ⟨rfl, rfl⟩ := h; exact ⟨vc_RX11_125_0, rfl, by decide, hXX 47 (by decide)⟩); by_cases h2 : t = 2; (subst h2; simp at h; obtain ⟨rfl, rfl⟩ := h; exact ⟨vc_RX11_125_2, rfl, by decide, hXX 47 (by decide)⟩); by_cases h3 : t = 3; (subst h3; simp at h; obtain ⟨rfl, rfl⟩ := h; exact ⟨vc_RX11_125_3, rfl, by decide, hXX 47 (by decide)⟩); by_cases h4 : t = 4; (subst h4; simp at h; obtain ⟨rfl, rfl⟩ := h; exact ⟨vc_RX11_125_4, rfl, by decide, hXX 47 (by decide)⟩); by_cases h5 : t = 5; (subst h5; simp at h; obtain ⟨rfl, rfl⟩ := h; exact ⟨vc_RX11_125_5, rfl, by decide, hXX 47 (by decide)⟩); by_cases h6 : t = 6; (subst h6; simp at h; obtain ⟨rfl, rfl⟩ := h; exact ⟨vc_RX11_125_6, rfl, by decide, hXX 40 (by decide)⟩); by_cases h7 : t = 7; (subst h7; simp at h; obtain ⟨rfl, rfl⟩ := h; exact ⟨vc_RX11_125_7, rfl, by decide, hXX 47 (by decide)⟩); by_cases h9 : t = 9; (subst h9; simp at h; obtain ⟨rfl, rfl⟩ := h; exact ⟨vc_RX11_125_9, rfl, by decide, hXX 61 (by decide)⟩); simp [h0, h2, h3, h4, h5, h6, h7, h9] at h) (by decide +kernel) rfl
theorem o125_24 : OKp l S b Lx xs dC dI cA 125 24 (s_bin g_iadd) := ok_iadd (by decide +kernel) rfl
theorem o125_25 : OKp l S b Lx xs dC dI cA 125 25 (s_istore 4) := ok_istore (by decide +kernel) rfl
theorem o125_26 : OKp l S b Lx xs dC dI cA 125 26 (s_iload 5) := ok_iload (by decide +kernel) rfl
theorem o125_27 : OKp l S b Lx xs dC dI cA 125 27 (s_aload 7) := ok_aload (by decide +kernel) rfl
theorem o125_28 : OKp l S b Lx xs dC dI cA 125 28 (s_aload 2) := ok_aload_n (k9 := 2) (by decide +kernel) rfl rfl
theorem o125_29 : OKp l S b Lx xs dC dI cA 125 29 (s_iload 5) := ok_iload (by decide +kernel) rfl
theorem o125_30 : OKp l S b Lx xs dC dI cA 125 30 (s_invV dv_4 [] 2) := ok_invV (by intro t y ml h; unfold dv_4 at h; by_cases h0 : t = 0; (subst h0; simp at h; obtain ⟨rfl, rfl⟩ := h; exact ⟨vc_RX11_176_0, rfl, by decide, hXX 49 (by decide)⟩); by_cases h2 : t = 2; (subst h2; simp at h; obtain ⟨rfl, rfl⟩ := h; exact ⟨vc_RX11_176_2, rfl, by decide, hXX 21 (by decide)⟩); by_cases h3 : t = 3; (subst h3; simp at h; obtain ⟨rfl, rfl⟩ := h; exact ⟨vc_RX11_176_3, rfl, by decide, hXX 49 (by decide)⟩); by_cases h4 : t = 4; (subst h4; simp at h; obtain ⟨rfl, rfl⟩ := h; exact ⟨vc_RX11_176_4, rfl, by decide, hXX 49 (by decide)⟩); by_cases h5 : t = 5; (subst h5; simp at h; obtain ⟨rfl, rfl⟩ := h; exact ⟨vc_RX11_176_5, rfl, by decide, hXX 49 (by decide)⟩); by_cases h6 : t = 6; (subst h6; simp at h; obtain ⟨rfl, rfl⟩ := h; exact ⟨vc_RX11_176_6, rfl, by decide, hXX 49 (by decide)⟩); by_cases h7 : t = 7; (subst h7; simp at h; obtain ⟨rfl, rfl⟩ := h; exact ⟨vc_RX11_176_7, rfl, by decide, hXX 49 (by decide)⟩); by_cases h9 : t = 9; (subst h9; simp at h; obtain ⟨rfl, rfl⟩ := h; exact ⟨vc_RX11_176_9, rfl, by decide, hXX 49 (by decide)⟩); simp [h0, h2, h3, h4, h5, h6, h7, h9] at h) (by decide +kernel) rfl
theorem o125_31 : OKp l S b Lx xs dC dI cA 125 31 (s_const (-1)) := ok_iconst (n := -1) (by decide +kernel) (by decide) rfl
theorem o125_32 : OKp l S b Lx xs dC dI cA 125 32 (s_bin g_ixor) := ok_ixor (by decide +kernel) rfl
theorem o125_33 : OKp l S b Lx xs dC dI cA 125 33 (s_bin g_iand) := ok_iand (by decide +kernel) rfl
theorem o125_34 : OKp l S b Lx xs dC dI cA 125 34 (s_istore 5) := ok_istore (by decide +kernel) rfl
theorem o125_35 : OKp l S b Lx xs dC dI cA 125 35 (s_iinc 6 (1)) := ok_iinc (n := 1) (by decide +kernel) (by decide) rfl
theorem o125_36 : OKp l S b Lx xs dC dI cA 125 36 (s_goto 6) := ok_goto (off := -60) (by decide +kernel) (by decide +kernel)
theorem o125_37 : OKp l S b Lx xs dC dI cA 125 37 (s_iload 4) := ok_iload (by decide +kernel) rfl
theorem o125_38 : OKp l S b Lx xs dC dI cA 125 38 (s_ret) := ok_ret (by decide +kernel) rfl
theorem a125 (hl9 : l.stackTraces = false) : sm_all (OKp l S b Lx xs dC dI cA 125) 0 sc_125 := ⟨o125_0, o125_1, o125_2, o125_3, o125_4, o125_5, o125_6, o125_7, o125_8, o125_9, o125_10, o125_11, o125_12, o125_13, o125_14, o125_15, o125_16, o125_17, o125_18, o125_19, o125_20, o125_21, o125_22, o125_23, o125_24, o125_25, o125_26, o125_27, o125_28, o125_29, o125_30, o125_31, o125_32, o125_33, o125_34, o125_35, o125_36, o125_37, o125_38, trivial⟩
theorem o126_0 : OKp l S b Lx xs dC dI cA 126 0 (s_iload 2) := ok_iload_n (k9 := 2) (by decide +kernel) rfl rfl
theorem o126_1 : OKp l S b Lx xs dC dI cA 126 1 (s_istore 4) := ok_istore (by decide +kernel) rfl
theorem o126_2 : OKp l S b Lx xs dC dI cA 126 2 (s_const (0)) := ok_iconst (n := 0) (by decide +kernel) (by decide) rfl
theorem o126_3 : OKp l S b Lx xs dC dI cA 126 3 (s_istore 5) := ok_istore (by decide +kernel) rfl
theorem o126_4 : OKp l S b Lx xs dC dI cA 126 4 (s_iload 5) := ok_iload (by decide +kernel) rfl
theorem o126_5 : OKp l S b Lx xs dC dI cA 126 5 (s_iload 3) := ok_iload_n (k9 := 3) (by decide +kernel) rfl rfl
theorem o126_6 : OKp l S b Lx xs dC dI cA 126 6 (s_icmp (fun x y => y ≤ x) 25) := ok_icmp_ge (off := 36) (by decide +kernel) (by decide +kernel) rfl
theorem o126_7 : OKp l S b Lx xs dC dI cA 126 7 (s_aload 0) := ok_aload_n (k9 := 0) (by decide +kernel) rfl rfl
theorem o126_8 : OKp l S b Lx xs dC dI cA 126 8 (s_aload 1) := ok_aload_n (k9 := 1) (by decide +kernel) rfl rfl
theorem o126_9 : OKp l S b Lx xs dC dI cA 126 9 (s_iload 4) := ok_iload (by decide +kernel) rfl
theorem o126_10 : OKp l S b Lx xs dC dI cA 126 10 (s_invV dv_3 [] 2) := ok_invV (by intro t y ml h; unfold dv_3 at h; by_cases h0 : t = 0; (subst h0; simp at h; obtain ⟨rfl, rfl⟩ := h; exact ⟨vc_RX11_125_0, rfl, by decide, hXX 47 (by decide)⟩); by_cases h2 : t = 2; (subst h2; simp at h; obtain ⟨rfl, rfl⟩ := h; exact ⟨vc_RX11_125_2, rfl, by decide, hXX 47 (by decide)⟩); by_cases h3 : t = 3; (subst h3; simp at h; obtain ⟨rfl, rfl⟩ := h; exact ⟨vc_RX11_125_3, rfl, by decide, hXX 47 (by decide)⟩); by_cases h4 : t = 4; (subst h4; simp at h; obtain ⟨rfl, rfl⟩ := h; exact ⟨vc_RX11_125_4, rfl, by decide, hXX 47 (by decide)⟩); by_cases h5 : t = 5; (subst h5; simp at h; obtain ⟨rfl, rfl⟩ := h; exact ⟨vc_RX11_125_5, rfl, by decide, hXX 47 (by decide)⟩); by_cases h6 : t = 6; (subst h6; simp at h; obtain ⟨rfl, rfl⟩ := h; exact ⟨vc_RX11_125_6, rfl, by decide, hXX 40 (by decide)⟩); by_cases h7 : t = 7; (subst h7; simp at h; obtain ⟨rfl, rfl⟩ := h; exact ⟨vc_RX11_125_7, rfl, by decide, hXX 47 (by decide)⟩); by_cases h9 : t = 9; (subst h9; simp at h; obtain ⟨rfl, rfl⟩ := h; exact ⟨vc_RX11_125_9, rfl, by decide, hXX 61 (by decide)⟩); simp [h0, h2, h3, h4, h5, h6, h7, h9] at h) (by decide +kernel) rfl
theorem o126_11 : OKp l S b Lx xs dC dI cA 126 11 (s_if (fun x => 0 < x) 14) := ok_if_gt (off := 6) (by decide +kernel) (by decide +kernel) rfl
theorem o126_12 : OKp l S b Lx xs dC dI cA 126 12 (s_iload 5) := ok_iload (by decide +kernel) rfl
theorem o126_13 : OKp l S b Lx xs dC dI cA 126 13 (s_ret) := ok_ret (by decide +kernel) rfl
theorem o126_14 : OKp l S b Lx xs dC dI cA 126 14 (s_iload 4) := ok_iload (by decide +kernel) rfl
theorem o126_15 : OKp l S b Lx xs dC dI cA 126 15 (s_aload 0) := ok_aload_n (k9 := 0) (by decide +kernel) rfl rfl
theorem o126_16 : OKp l S b Lx xs dC dI cA 126 16 (s_aload 1) := ok_aload_n (k9 := 1) (by decide +kernel) rfl rfl
theorem o126_17 : OKp l S b Lx xs dC dI cA 126 17 (s_iload 4) := ok_iload (by decide +kernel) rfl
theorem o126_18 : OKp l S b Lx xs dC dI cA 126 18 (s_invV dv_4 [] 2) := ok_invV (by intro t y ml h; unfold dv_4 at h; by_cases h0 : t = 0; (subst h0; simp at h; obtain ⟨rfl, rfl⟩ := h; exact ⟨vc_RX11_176_0, rfl, by decide, hXX 49 (by decide)⟩); by_cases h2 : t = 2; (subst h2; simp at h; obtain ⟨rfl, rfl⟩ := h; exact ⟨vc_RX11_176_2, rfl, by decide, hXX 21 (by decide)⟩); by_cases h3 : t = 3; (subst h3; simp at h; obtain ⟨rfl, rfl⟩ := h; exact ⟨vc_RX11_176_3, rfl, by decide, hXX 49 (by decide)⟩); by_cases h4 : t = 4; (subst h4; simp at h; obtain ⟨rfl, rfl⟩ := h; exact ⟨vc_RX11_176_4, rfl, by decide, hXX 49 (by decide)⟩); by_cases h5 : t = 5; (subst h5; simp at h; obtain ⟨rfl, rfl⟩ := h; exact ⟨vc_RX11_176_5, rfl, by decide, hXX 49 (by decide)⟩); by_cases h6 : t = 6; (subst h6; simp at h; obtain ⟨rfl, rfl⟩ := h; exact ⟨vc_RX11_176_6, rfl, by decide, hXX 49 (by decide)⟩); by_cases h7 : t = 7; (subst h7; simp at h; obtain ⟨rfl, rfl⟩ := h; exact ⟨vc_RX11_176_7, rfl, by decide, hXX 49 (by decide)⟩); by_cases h9 : t = 9; (subst h9; simp at h; obtain ⟨rfl, rfl⟩ := h; exact ⟨vc_RX11_176_9, rfl, by decide, hXX 49 (by decide)⟩); simp [h0, h2, h3, h4, h5, h6, h7, h9] at h) (by decide +kernel) rfl
theorem o126_19 : OKp l S b Lx xs dC dI cA 126 19 (s_const (-1)) := ok_iconst (n := -1) (by decide +kernel) (by decide) rfl
theorem o126_20 : OKp l S b Lx xs dC dI cA 126 20 (s_bin g_ixor) := ok_ixor (by decide +kernel) rfl
theorem o126_21 : OKp l S b Lx xs dC dI cA 126 21 (s_bin g_iand) := ok_iand (by decide +kernel) rfl
theorem o126_22 : OKp l S b Lx xs dC dI cA 126 22 (s_istore 4) := ok_istore (by decide +kernel) rfl
theorem o126_23 : OKp l S b Lx xs dC dI cA 126 23 (s_iinc 5 (1)) := ok_iinc (n := 1) (by decide +kernel) (by decide) rfl
theorem o126_24 : OKp l S b Lx xs dC dI cA 126 24 (s_goto 4) := ok_goto (off := -36) (by decide +kernel) (by decide +kernel)
theorem o126_25 : OKp l S b Lx xs dC dI cA 126 25 (s_iload 3) := ok_iload_n (k9 := 3) (by decide +kernel) rfl rfl
theorem o126_26 : OKp l S b Lx xs dC dI cA 126 26 (s_ret) := ok_ret (by decide +kernel) rfl
theorem a126 (hl9 : l.stackTraces = false) : sm_all (OKp l S b Lx xs dC dI cA 126) 0 sc_126 := ⟨o126_0, o126_1, o126_2, o126_3, o126_4, o126_5, o126_6, o126_7, o126_8, o126_9, o126_10, o126_11, o126_12, o126_13, o126_14, o126_15, o126_16, o126_17, o126_18, o126_19, o126_20, o126_21, o126_22, o126_23, o126_24, o126_25, o126_26, trivial⟩
theorem o127_0 : OKp l S b Lx xs dC dI cA 127 0 (s_aload 1) := ok_aload_n (k9 := 1) (by decide +kernel) rfl rfl
theorem o127_1 : OKp l S b Lx xs dC dI cA 127 1 (s_getI (fun t => t == 8) 3) := ok_getI (by decide +kernel) rfl fd_RX11_61
theorem o127_2 : OKp l S b Lx xs dC dI cA 127 2 (s_const (6)) := ok_bipush (n := 6) (by decide +kernel) (by decide) rfl
theorem o127_3 : OKp l S b Lx xs dC dI cA 127 3 (s_invS 226 2 2) := ok_invS rfl rfl (by decide) (hXX 226 (by decide)) w_607 w_608 w_72 c_226 (by decide +kernel) (by decide +kernel) rfl
theorem o127_4 : OKp l S b Lx xs dC dI cA 127 4 (s_istore 4) := ok_istore (by decide +kernel) rfl
theorem o127_5 : OKp l S b Lx xs dC dI cA 127 5 (s_const (0)) := ok_iconst (n := 0) (by decide +kernel) (by decide) rfl
theorem o127_6 : OKp l S b Lx xs dC dI cA 127 6 (s_istore 5) := ok_istore (by decide +kernel) rfl
theorem o127_7 : OKp l S b Lx xs dC dI cA 127 7 (s_iload 5) := ok_iload (by decide +kernel) rfl
theorem o127_8 : OKp l S b Lx xs dC dI cA 127 8 (s_iload 4) := ok_iload (by decide +kernel) rfl
theorem o127_9 : OKp l S b Lx xs dC dI cA 127 9 (s_icmp (fun x y => y ≤ x) 17) := ok_icmp_ge (off := 18) (by decide +kernel) (by decide +kernel) rfl
theorem o127_10 : OKp l S b Lx xs dC dI cA 127 10 (s_aload 0) := ok_aload_n (k9 := 0) (by decide +kernel) rfl rfl
theorem o127_11 : OKp l S b Lx xs dC dI cA 127 11 (s_getR (fun t => t == 11) 6) := ok_getR (by decide +kernel) rfl fd_RX11_36
theorem o127_12 : OKp l S b Lx xs dC dI cA 127 12 (s_iload 5) := ok_iload (by decide +kernel) rfl
theorem o127_13 : OKp l S b Lx xs dC dI cA 127 13 (s_iload 5) := ok_iload (by decide +kernel) rfl
theorem o127_14 : OKp l S b Lx xs dC dI cA 127 14 (s_iast) := ok_iast (by decide +kernel) rfl
theorem o127_15 : OKp l S b Lx xs dC dI cA 127 15 (s_iinc 5 (1)) := ok_iinc (n := 1) (by decide +kernel) (by decide) rfl
theorem o127_16 : OKp l S b Lx xs dC dI cA 127 16 (s_goto 7) := ok_goto (off := -19) (by decide +kernel) (by decide +kernel)
theorem o127_17 : OKp l S b Lx xs dC dI cA 127 17 (s_aload 0) := ok_aload_n (k9 := 0) (by decide +kernel) rfl rfl
theorem o127_18 : OKp l S b Lx xs dC dI cA 127 18 (s_getR (fun t => t == 11) 7) := ok_getR (by decide +kernel) rfl fd_RX11_39
theorem o127_19 : OKp l S b Lx xs dC dI cA 127 19 (s_const (0)) := ok_iconst (n := 0) (by decide +kernel) (by decide) rfl
theorem o127_20 : OKp l S b Lx xs dC dI cA 127 20 (s_aload 2) := ok_aload_n (k9 := 2) (by decide +kernel) rfl rfl
theorem o127_21 : OKp l S b Lx xs dC dI cA 127 21 (s_getI (fun t => t == 1) 3) := ok_getI (by decide +kernel) rfl fd_RX11_85
theorem o127_22 : OKp l S b Lx xs dC dI cA 127 22 (s_iast) := ok_iast (by decide +kernel) rfl
theorem o127_23 : OKp l S b Lx xs dC dI cA 127 23 (s_aload 0) := ok_aload_n (k9 := 0) (by decide +kernel) rfl rfl
theorem o127_24 : OKp l S b Lx xs dC dI cA 127 24 (s_getR (fun t => t == 11) 8) := ok_getR (by decide +kernel) rfl fd_RX11_42
theorem o127_25 : OKp l S b Lx xs dC dI cA 127 25 (s_const (0)) := ok_iconst (n := 0) (by decide +kernel) (by decide) rfl
theorem o127_26 : OKp l S b Lx xs dC dI cA 127 26 (s_const (0)) := ok_iconst (n := 0) (by decide +kernel) (by decide) rfl
theorem o127_27 : OKp l S b Lx xs dC dI cA 127 27 (s_iast) := ok_iast (by decide +kernel) rfl
theorem o127_28 : OKp l S b Lx xs dC dI cA 127 28 (s_const (-1)) := ok_iconst (n := -1) (by decide +kernel) (by decide) rfl
theorem o127_29 : OKp l S b Lx xs dC dI cA 127 29 (s_istore 5) := ok_istore (by decide +kernel) rfl
theorem o127_30 : OKp l S b Lx xs dC dI cA 127 30 (s_const (0)) := ok_iconst (n := 0) (by decide +kernel) (by decide) rfl
theorem o127_31 : OKp l S b Lx xs dC dI cA 127 31 (s_istore 6) := ok_istore (by decide +kernel) rfl
theorem o127_32 : OKp l S b Lx xs dC dI cA 127 32 (s_const (0)) := ok_iconst (n := 0) (by decide +kernel) (by decide) rfl
theorem o127_33 : OKp l S b Lx xs dC dI cA 127 33 (s_istore 7) := ok_istore (by decide +kernel) rfl
theorem o127_34 : OKp l S b Lx xs dC dI cA 127 34 (s_const (0)) := ok_iconst (n := 0) (by decide +kernel) (by decide) rfl
theorem o127_35 : OKp l S b Lx xs dC dI cA 127 35 (s_istore 8) := ok_istore (by decide +kernel) rfl
theorem o127_36 : OKp l S b Lx xs dC dI cA 127 36 (s_iload 8) := ok_iload (by decide +kernel) rfl
theorem o127_37 : OKp l S b Lx xs dC dI cA 127 37 (s_const (720)) := ok_sipush (n := 720) (by decide +kernel) (by decide) rfl
theorem o127_38 : OKp l S b Lx xs dC dI cA 127 38 (s_icmp (fun x y => y ≤ x) 68) := ok_icmp_ge (off := 61) (by decide +kernel) (by decide +kernel) rfl
theorem o127_39 : OKp l S b Lx xs dC dI cA 127 39 (s_iload 7) := ok_iload (by decide +kernel) rfl
theorem o127_40 : OKp l S b Lx xs dC dI cA 127 40 (s_if (fun x => x < 0) 68) := ok_if_lt (off := 56) (by decide +kernel) (by decide +kernel) rfl
theorem o127_41 : OKp l S b Lx xs dC dI cA 127 41 (s_aload 0) := ok_aload_n (k9 := 0) (by decide +kernel) rfl rfl
theorem o127_42 : OKp l S b Lx xs dC dI cA 127 42 (s_iload 7) := ok_iload (by decide +kernel) rfl
theorem o127_43 : OKp l S b Lx xs dC dI cA 127 43 (s_iload 4) := ok_iload (by decide +kernel) rfl
theorem o127_44 : OKp l S b Lx xs dC dI cA 127 44 (s_aload 1) := ok_aload_n (k9 := 1) (by decide +kernel) rfl rfl
theorem o127_45 : OKp l S b Lx xs dC dI cA 127 45 (s_aload 2) := ok_aload_n (k9 := 2) (by decide +kernel) rfl rfl
theorem o127_46 : OKp l S b Lx xs dC dI cA 127 46 (s_invV (dv1 11 128 7) [] 4) := ok_invV (dv1_ok vc_RX11_277_11 rfl (by decide) (hXX 128 (by decide))) (by decide +kernel) rfl
theorem o127_47 : OKp l S b Lx xs dC dI cA 127 47 (s_aload 0) := ok_aload_n (k9 := 0) (by decide +kernel) rfl rfl
theorem o127_48 : OKp l S b Lx xs dC dI cA 127 48 (s_getR (fun t => t == 11) 8) := ok_getR (by decide +kernel) rfl fd_RX11_42
theorem o127_49 : OKp l S b Lx xs dC dI cA 127 49 (s_iload 4) := ok_iload (by decide +kernel) rfl
theorem o127_50 : OKp l S b Lx xs dC dI cA 127 50 (s_iald) := ok_iald (by decide +kernel) rfl
theorem o127_51 : OKp l S b Lx xs dC dI cA 127 51 (s_iload 5) := ok_iload (by decide +kernel) rfl
theorem o127_52 : OKp l S b Lx xs dC dI cA 127 52 (s_icmp (fun x y => x ≤ y) 62) := ok_icmp_le (off := 20) (by decide +kernel) (by decide +kernel) rfl
theorem o127_53 : OKp l S b Lx xs dC dI cA 127 53 (s_aload 0) := ok_aload_n (k9 := 0) (by decide +kernel) rfl rfl
theorem o127_54 : OKp l S b Lx xs dC dI cA 127 54 (s_getR (fun t => t == 11) 8) := ok_getR (by decide +kernel) rfl fd_RX11_42
theorem o127_55 : OKp l S b Lx xs dC dI cA 127 55 (s_iload 4) := ok_iload (by decide +kernel) rfl
theorem o127_56 : OKp l S b Lx xs dC dI cA 127 56 (s_iald) := ok_iald (by decide +kernel) rfl
theorem o127_57 : OKp l S b Lx xs dC dI cA 127 57 (s_istore 5) := ok_istore (by decide +kernel) rfl
theorem o127_58 : OKp l S b Lx xs dC dI cA 127 58 (s_aload 0) := ok_aload_n (k9 := 0) (by decide +kernel) rfl rfl
theorem o127_59 : OKp l S b Lx xs dC dI cA 127 59 (s_iload 4) := ok_iload (by decide +kernel) rfl
theorem o127_60 : OKp l S b Lx xs dC dI cA 127 60 (s_invV (dv1 11 129 4) [] 1) := ok_invV (dv1_ok vc_RX11_281_11 rfl (by decide) (hXX 129 (by decide))) (by decide +kernel) rfl
theorem o127_61 : OKp l S b Lx xs dC dI cA 127 61 (s_istore 6) := ok_istore (by decide +kernel) rfl
theorem o127_62 : OKp l S b Lx xs dC dI cA 127 62 (s_aload 0) := ok_aload_n (k9 := 0) (by decide +kernel) rfl rfl
theorem o127_63 : OKp l S b Lx xs dC dI cA 127 63 (s_iload 4) := ok_iload (by decide +kernel) rfl
theorem o127_64 : OKp l S b Lx xs dC dI cA 127 64 (s_invV (dv1 11 130 7) [] 1) := ok_invV (dv1_ok vc_RX11_284_11 rfl (by decide) (hXX 130 (by decide))) (by decide +kernel) rfl
theorem o127_65 : OKp l S b Lx xs dC dI cA 127 65 (s_istore 7) := ok_istore (by decide +kernel) rfl
theorem o127_66 : OKp l S b Lx xs dC dI cA 127 66 (s_iinc 8 (1)) := ok_iinc (n := 1) (by decide +kernel) (by decide) rfl
theorem o127_67 : OKp l S b Lx xs dC dI cA 127 67 (s_goto 36) := ok_goto (off := -63) (by decide +kernel) (by decide +kernel)
theorem o127_68 : OKp l S b Lx xs dC dI cA 127 68 (s_iload 3) := ok_iload_n (k9 := 3) (by decide +kernel) rfl rfl
theorem o127_69 : OKp l S b Lx xs dC dI cA 127 69 (s_if (fun x => x ≠ 0) 72) := ok_if_ne (off := 8) (by decide +kernel) (by decide +kernel) rfl
theorem o127_70 : OKp l S b Lx xs dC dI cA 127 70 (s_iload 5) := ok_iload (by decide +kernel) rfl
theorem o127_71 : OKp l S b Lx xs dC dI cA 127 71 (s_goto 73) := ok_goto (off := 5) (by decide +kernel) (by decide +kernel)
theorem o127_72 : OKp l S b Lx xs dC dI cA 127 72 (s_iload 6) := ok_iload (by decide +kernel) rfl
theorem o127_73 : OKp l S b Lx xs dC dI cA 127 73 (s_ret) := ok_ret (by decide +kernel) rfl
theorem a127_0 (hl9 : l.stackTraces = false) : sm_all (OKp l S b Lx xs dC dI cA 127) 0 sc_127_0 := ⟨o127_0, o127_1, o127_2, o127_3, o127_4, o127_5, o127_6, o127_7, o127_8, o127_9, o127_10, o127_11, o127_12, o127_13, o127_14, o127_15, o127_16, o127_17, o127_18, o127_19, o127_20, o127_21, o127_22, o127_23, o127_24, o127_25, o127_26, o127_27, o127_28, o127_29, o127_30, o127_31, o127_32, o127_33, o127_34, o127_35, o127_36, o127_37, o127_38, o127_39, o127_40, o127_41, o127_42, o127_43, o127_44, o127_45, o127_46, o127_47, o127_48, o127_49, o127_50, o127_51, o127_52, o127_53, o127_54, o127_55, o127_56, o127_57, o127_58, o127_59, trivial⟩
theorem a127_1 (hl9 : l.stackTraces = false) : sm_all (OKp l S b Lx xs dC dI cA 127) 60 sc_127_1 := ⟨o127_60, o127_61, o127_62, o127_63, o127_64, o127_65, o127_66, o127_67, o127_68, o127_69, o127_70, o127_71, o127_72, o127_73, trivial⟩
theorem a127 (hl9 : l.stackTraces = false) : sm_all (OKp l S b Lx xs dC dI cA 127) 0 sc_127 := sm_all_app _ _ _ (a127_0 hl9) (a127_1 hl9)
theorem o128_0 : OKp l S b Lx xs dC dI cA 128 0 (s_iload 1) := ok_iload_n (k9 := 1) (by decide +kernel) rfl rfl
theorem o128_1 : OKp l S b Lx xs dC dI cA 128 1 (s_const (0)) := ok_iconst (n := 0) (by decide +kernel) (by decide) rfl
theorem o128_2 : OKp l S b Lx xs dC dI cA 128 2 (s_invS 225 2 2) := ok_invS rfl rfl (by decide) (hXX 225 (by decide)) w_614 w_615 w_72 c_225 (by decide +kernel) (by decide +kernel) rfl
theorem o128_3 : OKp l S b Lx xs dC dI cA 128 3 (s_istore 5) := ok_istore (by decide +kernel) rfl
theorem o128_4 : OKp l S b Lx xs dC dI cA 128 4 (s_iload 5) := ok_iload (by decide +kernel) rfl
theorem o128_5 : OKp l S b Lx xs dC dI cA 128 5 (s_iload 2) := ok_iload_n (k9 := 2) (by decide +kernel) rfl rfl
theorem o128_6 : OKp l S b Lx xs dC dI cA 128 6 (s_icmp (fun x y => y ≤ x) 64) := ok_icmp_ge (off := 108) (by decide +kernel) (by decide +kernel) rfl
theorem o128_7 : OKp l S b Lx xs dC dI cA 128 7 (s_iload 5) := ok_iload (by decide +kernel) rfl
theorem o128_8 : OKp l S b Lx xs dC dI cA 128 8 (s_aload 0) := ok_aload_n (k9 := 0) (by decide +kernel) rfl rfl
theorem o128_9 : OKp l S b Lx xs dC dI cA 128 9 (s_getR (fun t => t == 11) 6) := ok_getR (by decide +kernel) rfl fd_RX11_36
theorem o128_10 : OKp l S b Lx xs dC dI cA 128 10 (s_alen) := ok_alen (by decide +kernel) rfl
theorem o128_11 : OKp l S b Lx xs dC dI cA 128 11 (s_icmp (fun x y => y ≤ x) 64) := ok_icmp_ge (off := 98) (by decide +kernel) (by decide +kernel) rfl
theorem o128_12 : OKp l S b Lx xs dC dI cA 128 12 (s_aload 0) := ok_aload_n (k9 := 0) (by decide +kernel) rfl rfl
theorem o128_13 : OKp l S b Lx xs dC dI cA 128 13 (s_getR (fun t => t == 11) 0) := ok_getR (by decide +kernel) rfl fd_RX11_10
theorem o128_14 : OKp l S b Lx xs dC dI cA 128 14 (s_aload 3) := ok_aload_n (k9 := 3) (by decide +kernel) rfl rfl
theorem o128_15 : OKp l S b Lx xs dC dI cA 128 15 (s_aload 0) := ok_aload_n (k9 := 0) (by decide +kernel) rfl rfl
theorem o128_16 : OKp l S b Lx xs dC dI cA 128 16 (s_getR (fun t => t == 11) 6) := ok_getR (by decide +kernel) rfl fd_RX11_36
theorem o128_17 : OKp l S b Lx xs dC dI cA 128 17 (s_iload 5) := ok_iload (by decide +kernel) rfl
theorem o128_18 : OKp l S b Lx xs dC dI cA 128 18 (s_iald) := ok_iald (by decide +kernel) rfl
theorem o128_19 : OKp l S b Lx xs dC dI cA 128 19 (s_invV (dv1 8 57 2) [] 1) := ok_invV (dv1_ok vc_RX11_65_8 rfl (by decide) (hXX 57 (by decide))) (by decide +kernel) rfl
theorem o128_20 : OKp l S b Lx xs dC dI cA 128 20 (s_invV (dv1 10 68 2) [] 1) := ok_invV (dv1_ok vc_RX11_106_10 rfl (by decide) (hXX 68 (by decide))) (by decide +kernel) rfl
theorem o128_21 : OKp l S b Lx xs dC dI cA 128 21 (s_astore 6) := ok_astore (by decide +kernel) rfl
theorem o128_22 : OKp l S b Lx xs dC dI cA 128 22 (s_aload 6) := ok_aload (by decide +kernel) rfl
theorem o128_23 : OKp l S b Lx xs dC dI cA 128 23 (s_ifnull 62) := ok_ifnull (off := 67) (by decide +kernel) (by decide +kernel) rfl
theorem o128_24 : OKp l S b Lx xs dC dI cA 128 24 (s_aload 0) := ok_aload_n (k9 := 0) (by decide +kernel) rfl rfl
theorem o128_25 : OKp l S b Lx xs dC dI cA 128 25 (s_getR (fun t => t == 11) 8) := ok_getR (by decide +kernel) rfl fd_RX11_42
theorem o128_26 : OKp l S b Lx xs dC dI cA 128 26 (s_iload 5) := ok_iload (by decide +kernel) rfl
theorem o128_27 : OKp l S b Lx xs dC dI cA 128 27 (s_const (1)) := ok_iconst (n := 1) (by decide +kernel) (by decide) rfl
theorem o128_28 : OKp l S b Lx xs dC dI cA 128 28 (s_bin g_iadd) := ok_iadd (by decide +kernel) rfl
theorem o128_29 : OKp l S b Lx xs dC dI cA 128 29 (s_aload 0) := ok_aload_n (k9 := 0) (by decide +kernel) rfl rfl
theorem o128_30 : OKp l S b Lx xs dC dI cA 128 30 (s_getR (fun t => t == 11) 8) := ok_getR (by decide +kernel) rfl fd_RX11_42
theorem o128_31 : OKp l S b Lx xs dC dI cA 128 31 (s_iload 5) := ok_iload (by decide +kernel) rfl
theorem o128_32 : OKp l S b Lx xs dC dI cA 128 32 (s_iald) := ok_iald (by decide +kernel) rfl
theorem o128_33 : OKp l S b Lx xs dC dI cA 128 33 (s_aload 6) := ok_aload (by decide +kernel) rfl
theorem o128_34 : OKp l S b Lx xs dC dI cA 128 34 (s_aload 4) := ok_aload (by decide +kernel) rfl
theorem o128_35 : OKp l S b Lx xs dC dI cA 128 35 (s_aload 0) := ok_aload_n (k9 := 0) (by decide +kernel) rfl rfl
theorem o128_36 : OKp l S b Lx xs dC dI cA 128 36 (s_getR (fun t => t == 11) 7) := ok_getR (by decide +kernel) rfl fd_RX11_39
theorem o128_37 : OKp l S b Lx xs dC dI cA 128 37 (s_iload 5) := ok_iload (by decide +kernel) rfl
theorem o128_38 : OKp l S b Lx xs dC dI cA 128 38 (s_iald) := ok_iald (by decide +kernel) rfl
theorem o128_39 : OKp l S b Lx xs dC dI cA 128 39 (s_invV dv_3 [] 2) := ok_invV (by intro t y ml h; unfold dv_3 at h; by_cases h0 : t = 0; (subst h0; simp at h; obtain ⟨rfl, rfl⟩ := h; exact ⟨vc_RX11_125_0, rfl, by decide, hXX 47 (by decide)⟩); by_cases h2 : t = 2; (subst h2; simp at h; obtain ⟨rfl, rfl⟩ := h; exact ⟨vc_RX11_125_2, rfl, by decide, hXX 47 (by decide)⟩); by_cases h3 : t = 3; (subst h3; simp at h; obtain ⟨rfl, rfl⟩ := h; exact ⟨vc_RX11_125_3, rfl, by decide, hXX 47 (by decide)⟩); by_cases h4 : t = 4; (subst h4; simp at h; obtain ⟨rfl, rfl⟩ := h; exact ⟨vc_RX11_125_4, rfl, by decide, hXX 47 (by decide)⟩); by_cases h5 : t = 5; (subst h5; simp at h; obtain ⟨rfl, rfl⟩ := h; exact ⟨vc_RX11_125_5, rfl, by decide, hXX 47 (by decide)⟩); by_cases h6 : t = 6; (subst h6; simp at h; obtain ⟨rfl, rfl⟩ := h; exact ⟨vc_RX11_125_6, rfl, by decide, hXX 40 (by decide)⟩); by_cases h7 : t = 7; (subst h7; simp at h; obtain ⟨rfl, rfl⟩ := h; exact ⟨vc_RX11_125_7, rfl, by decide, hXX 47 (by decide)⟩); by_cases h9 : t = 9; (subst h9; simp at h; obtain ⟨rfl, rfl⟩ := h; exact ⟨vc_RX11_125_9, rfl, by decide, hXX 61 (by decide)⟩); simp [h0, h2, h3, h4, h5, h6, h7, h9] at h) (by decide +kernel) rfl
theorem o128_40 : OKp l S b Lx xs dC dI cA 128 40 (s_bin g_iadd) := ok_iadd (by decide +kernel) rfl
theorem o128_41 : OKp l S b Lx xs dC dI cA 128 41 (s_iast) := ok_iast (by decide +kernel) rfl
theorem o128_42 : OKp l S b Lx xs dC dI cA 128 42 (s_aload 0) := ok_aload_n (k9 := 0) (by decide +kernel) rfl rfl
theorem o128_43 : OKp l S b Lx xs dC dI cA 128 43 (s_getR (fun t => t == 11) 7) := ok_getR (by decide +kernel) rfl fd_RX11_39
theorem o128_44 : OKp l S b Lx xs dC dI cA 128 44 (s_iload 5) := ok_iload (by decide +kernel) rfl
theorem o128_45 : OKp l S b Lx xs dC dI cA 128 45 (s_const (1)) := ok_iconst (n := 1) (by decide +kernel) (by decide) rfl
theorem o128_46 : OKp l S b Lx xs dC dI cA 128 46 (s_bin g_iadd) := ok_iadd (by decide +kernel) rfl
theorem o128_47 : OKp l S b Lx xs dC dI cA 128 47 (s_aload 0) := ok_aload_n (k9 := 0) (by decide +kernel) rfl rfl
theorem o128_48 : OKp l S b Lx xs dC dI cA 128 48 (s_getR (fun t => t == 11) 7) := ok_getR (by decide +kernel) rfl fd_RX11_39
theorem o128_49 : OKp l S b Lx xs dC dI cA 128 49 (s_iload 5) := ok_iload (by decide +kernel) rfl
theorem o128_50 : OKp l S b Lx xs dC dI cA 128 50 (s_iald) := ok_iald (by decide +kernel) rfl
theorem o128_51 : OKp l S b Lx xs dC dI cA 128 51 (s_aload 6) := ok_aload (by decide +kernel) rfl
theorem o128_52 : OKp l S b Lx xs dC dI cA 128 52 (s_aload 4) := ok_aload (by decide +kernel) rfl
theorem o128_53 : OKp l S b Lx xs dC dI cA 128 53 (s_aload 0) := ok_aload_n (k9 := 0) (by decide +kernel) rfl rfl
theorem o128_54 : OKp l S b Lx xs dC dI cA 128 54 (s_getR (fun t => t == 11) 7) := ok_getR (by decide +kernel) rfl fd_RX11_39
theorem o128_55 : OKp l S b Lx xs dC dI cA 128 55 (s_iload 5) := ok_iload (by decide +kernel) rfl
theorem o128_56 : OKp l S b Lx xs dC dI cA 128 56 (s_iald) := ok_iald (by decide +kernel) rfl
theorem o128_57 : OKp l S b Lx xs dC dI cA 128 57 (s_invV dv_4 [] 2) := ok_invV (by intro t y ml h; unfold dv_4 at h; by_cases h0 : t = 0; (subst h0; simp at h; obtain ⟨rfl, rfl⟩ := h; exact ⟨vc_RX11_176_0, rfl, by decide, hXX 49 (by decide)⟩); by_cases h2 : t = 2; (subst h2; simp at h; obtain ⟨rfl, rfl⟩ := h; exact ⟨vc_RX11_176_2, rfl, by decide, hXX 21 (by decide)⟩); by_cases h3 : t = 3; (subst h3; simp at h; obtain ⟨rfl, rfl⟩ := h; exact ⟨vc_RX11_176_3, rfl, by decide, hXX 49 (by decide)⟩); by_cases h4 : t = 4; (subst h4; simp at h; obtain ⟨rfl, rfl⟩ := h; exact ⟨vc_RX11_176_4, rfl, by decide, hXX 49 (by decide)⟩); by_cases h5 : t = 5; (subst h5; simp at h; obtain ⟨rfl, rfl⟩ := h; exact ⟨vc_RX11_176_5, rfl, by decide, hXX 49 (by decide)⟩); by_cases h6 : t = 6; (subst h6; simp at h; obtain ⟨rfl, rfl⟩ := h; exact ⟨vc_RX11_176_6, rfl, by decide, hXX 49 (by decide)⟩); by_cases h7 : t = 7; (subst h7; simp at h; obtain ⟨rfl, rfl⟩ := h; exact ⟨vc_RX11_176_7, rfl, by decide, hXX 49 (by decide)⟩); by_cases h9 : t = 9; (subst h9; simp at h; obtain ⟨rfl, rfl⟩ := h; exact ⟨vc_RX11_176_9, rfl, by decide, hXX 49 (by decide)⟩); simp [h0, h2, h3, h4, h5, h6, h7, h9] at h) (by decide +kernel) rfl
theorem o128_58 : OKp l S b Lx xs dC dI cA 128 58 (s_const (-1)) := ok_iconst (n := -1) (by decide +kernel) (by decide) rfl
theorem o128_59 : OKp l S b Lx xs dC dI cA 128 59 (s_bin g_ixor) := ok_ixor (by decide +kernel) rfl
theorem o128_60 : OKp l S b Lx xs dC dI cA 128 60 (s_bin g_iand) := ok_iand (by decide +kernel) rfl
theorem o128_61 : OKp l S b Lx xs dC dI cA 128 61 (s_iast) := ok_iast (by decide +kernel) rfl
theorem o128_62 : OKp l S b Lx xs dC dI cA 128 62 (s_iinc 5 (1)) := ok_iinc (n := 1) (by decide +kernel) (by decide) rfl
theorem o128_63 : OKp l S b Lx xs dC dI cA 128 63 (s_goto 4) := ok_goto (off := -108) (by decide +kernel) (by decide +kernel)
theorem o128_64 : OKp l S b Lx xs dC dI cA 128 64 (s_vret) := ok_vret (by decide +kernel) rfl
theorem a128_0 (hl9 : l.stackTraces = false) : sm_all (OKp l S b Lx xs dC dI cA 128) 0 sc_128_0 := ⟨o128_0, o128_1, o128_2, o128_3, o128_4, o128_5, o128_6, o128_7, o128_8, o128_9, o128_10, o128_11, o128_12, o128_13, o128_14, o128_15, o128_16, o128_17, o128_18, o128_19, o128_20, o128_21, o128_22, o128_23, o128_24, o128_25, o128_26, o128_27, o128_28, o128_29, o128_30, o128_31, o128_32, o128_33, o128_34, o128_35, o128_36, o128_37, o128_38, o128_39, o128_40, o128_41, o128_42, o128_43, o128_44, o128_45, o128_46, o128_47, o128_48, o128_49, o128_50, o128_51, o128_52, o128_53, o128_54, o128_55, o128_56, o128_57, o128_58, o128_59, trivial⟩
theorem a128_1 (hl9 : l.stackTraces = false) : sm_all (OKp l S b Lx xs dC dI cA 128) 60 sc_128_1 := ⟨o128_60, o128_61, o128_62, o128_63, o128_64, trivial⟩
theorem a128 (hl9 : l.stackTraces = false) : sm_all (OKp l S b Lx xs dC dI cA 128) 0 sc_128 := sm_all_app _ _ _ (a128_0 hl9) (a128_1 hl9)
theorem o129_0 : OKp l S b Lx xs dC dI cA 129 0 (s_const (0)) := ok_iconst (n := 0) (by decide +kernel) (by decide) rfl
theorem o129_1 : OKp l S b Lx xs dC dI cA 129 1 (s_istore 2) := ok_istore_n (k9 := 2) (by decide +kernel) rfl rfl
theorem o129_2 : OKp l S b Lx xs dC dI cA 129 2 (s_iload 1) := ok_iload_n (k9 := 1) (by decide +kernel) rfl rfl
theorem o129_3 : OKp l S b Lx xs dC dI cA 129 3 (s_aload 0) := ok_aload_n (k9 := 0) (by decide +kernel) rfl rfl
theorem o129_4 : OKp l S b Lx xs dC dI cA 129 4 (s_getR (fun t => t == 11) 6) := ok_getR (by decide +kernel) rfl fd_RX11_36
theorem o129_5 : OKp l S b Lx xs dC dI cA 129 5 (s_alen) := ok_alen (by decide +kernel) rfl
theorem o129_6 : OKp l S b Lx xs dC dI cA 129 6 (s_invS 226 2 2) := ok_invS rfl rfl (by decide) (hXX 226 (by decide)) w_607 w_608 w_72 c_226 (by decide +kernel) (by decide +kernel) rfl
theorem o129_7 : OKp l S b Lx xs dC dI cA 129 7 (s_const (1)) := ok_iconst (n := 1) (by decide +kernel) (by decide) rfl
theorem o129_8 : OKp l S b Lx xs dC dI cA 129 8 (s_bin g_isub) := ok_isub (by decide +kernel) rfl
theorem o129_9 : OKp l S b Lx xs dC dI cA 129 9 (s_istore 3) := ok_istore_n (k9 := 3) (by decide +kernel) rfl rfl
theorem o129_10 : OKp l S b Lx xs dC dI cA 129 10 (s_iload 3) := ok_iload_n (k9 := 3) (by decide +kernel) rfl rfl
theorem o129_11 : OKp l S b Lx xs dC dI cA 129 11 (s_if (fun x => x < 0) 23) := ok_if_lt (off := 21) (by decide +kernel) (by decide +kernel) rfl
theorem o129_12 : OKp l S b Lx xs dC dI cA 129 12 (s_iload 2) := ok_iload_n (k9 := 2) (by decide +kernel) rfl rfl
theorem o129_13 : OKp l S b Lx xs dC dI cA 129 13 (s_const (10)) := ok_bipush (n := 10) (by decide +kernel) (by decide) rfl
theorem o129_14 : OKp l S b Lx xs dC dI cA 129 14 (s_bin g_imul) := ok_imul (by decide +kernel) rfl
theorem o129_15 : OKp l S b Lx xs dC dI cA 129 15 (s_aload 0) := ok_aload_n (k9 := 0) (by decide +kernel) rfl rfl
theorem o129_16 : OKp l S b Lx xs dC dI cA 129 16 (s_getR (fun t => t == 11) 6) := ok_getR (by decide +kernel) rfl fd_RX11_36
theorem o129_17 : OKp l S b Lx xs dC dI cA 129 17 (s_iload 3) := ok_iload_n (k9 := 3) (by decide +kernel) rfl rfl
theorem o129_18 : OKp l S b Lx xs dC dI cA 129 18 (s_iald) := ok_iald (by decide +kernel) rfl
theorem o129_19 : OKp l S b Lx xs dC dI cA 129 19 (s_bin g_iadd) := ok_iadd (by decide +kernel) rfl
theorem o129_20 : OKp l S b Lx xs dC dI cA 129 20 (s_istore 2) := ok_istore_n (k9 := 2) (by decide +kernel) rfl rfl
theorem o129_21 : OKp l S b Lx xs dC dI cA 129 21 (s_iinc 3 (-1)) := ok_iinc (n := -1) (by decide +kernel) (by decide) rfl
theorem o129_22 : OKp l S b Lx xs dC dI cA 129 22 (s_goto 10) := ok_goto (off := -19) (by decide +kernel) (by decide +kernel)
theorem o129_23 : OKp l S b Lx xs dC dI cA 129 23 (s_iload 2) := ok_iload_n (k9 := 2) (by decide +kernel) rfl rfl
theorem o129_24 : OKp l S b Lx xs dC dI cA 129 24 (s_ret) := ok_ret (by decide +kernel) rfl
theorem a129 (hl9 : l.stackTraces = false) : sm_all (OKp l S b Lx xs dC dI cA 129) 0 sc_129 := ⟨o129_0, o129_1, o129_2, o129_3, o129_4, o129_5, o129_6, o129_7, o129_8, o129_9, o129_10, o129_11, o129_12, o129_13, o129_14, o129_15, o129_16, o129_17, o129_18, o129_19, o129_20, o129_21, o129_22, o129_23, o129_24, trivial⟩
theorem o130_0 : OKp l S b Lx xs dC dI cA 130 0 (s_iload 1) := ok_iload_n (k9 := 1) (by decide +kernel) rfl rfl
theorem o130_1 : OKp l S b Lx xs dC dI cA 130 1 (s_aload 0) := ok_aload_n (k9 := 0) (by decide +kernel) rfl rfl
theorem o130_2 : OKp l S b Lx xs dC dI cA 130 2 (s_getR (fun t => t == 11) 6) := ok_getR (by decide +kernel) rfl fd_RX11_36
theorem o130_3 : OKp l S b Lx xs dC dI cA 130 3 (s_alen) := ok_alen (by decide +kernel) rfl
theorem o130_4 : OKp l S b Lx xs dC dI cA 130 4 (s_invS 226 2 2) := ok_invS rfl rfl (by decide) (hXX 226 (by decide)) w_607 w_608 w_72 c_226 (by decide +kernel) (by decide +kernel) rfl
theorem o130_5 : OKp l S b Lx xs dC dI cA 130 5 (s_const (1)) := ok_iconst (n := 1) (by decide +kernel) (by decide) rfl
theorem o130_6 : OKp l S b Lx xs dC dI cA 130 6 (s_bin g_isub) := ok_isub (by decide +kernel) rfl
theorem o130_7 : OKp l S b Lx xs dC dI cA 130 7 (s_istore 2) := ok_istore_n (k9 := 2) (by decide +kernel) rfl rfl
theorem o130_8 : OKp l S b Lx xs dC dI cA 130 8 (s_iload 2) := ok_iload_n (k9 := 2) (by decide +kernel) rfl rfl
theorem o130_9 : OKp l S b Lx xs dC dI cA 130 9 (s_const (1)) := ok_iconst (n := 1) (by decide +kernel) (by decide) rfl
theorem o130_10 : OKp l S b Lx xs dC dI cA 130 10 (s_bin g_isub) := ok_isub (by decide +kernel) rfl
theorem o130_11 : OKp l S b Lx xs dC dI cA 130 11 (s_istore 3) := ok_istore_n (k9 := 3) (by decide +kernel) rfl rfl
theorem o130_12 : OKp l S b Lx xs dC dI cA 130 12 (s_iload 3) := ok_iload_n (k9 := 3) (by decide +kernel) rfl rfl
theorem o130_13 : OKp l S b Lx xs dC dI cA 130 13 (s_if (fun x => x < 0) 27) := ok_if_lt (off := 26) (by decide +kernel) (by decide +kernel) rfl
theorem o130_14 : OKp l S b Lx xs dC dI cA 130 14 (s_aload 0) := ok_aload_n (k9 := 0) (by decide +kernel) rfl rfl
theorem o130_15 : OKp l S b Lx xs dC dI cA 130 15 (s_getR (fun t => t == 11) 6) := ok_getR (by decide +kernel) rfl fd_RX11_36
theorem o130_16 : OKp l S b Lx xs dC dI cA 130 16 (s_iload 3) := ok_iload_n (k9 := 3) (by decide +kernel) rfl rfl
theorem o130_17 : OKp l S b Lx xs dC dI cA 130 17 (s_iald) := ok_iald (by decide +kernel) rfl
theorem o130_18 : OKp l S b Lx xs dC dI cA 130 18 (s_aload 0) := ok_aload_n (k9 := 0) (by decide +kernel) rfl rfl
theorem o130_19 : OKp l S b Lx xs dC dI cA 130 19 (s_getR (fun t => t == 11) 6) := ok_getR (by decide +kernel) rfl fd_RX11_36
theorem o130_20 : OKp l S b Lx xs dC dI cA 130 20 (s_iload 3) := ok_iload_n (k9 := 3) (by decide +kernel) rfl rfl
theorem o130_21 : OKp l S b Lx xs dC dI cA 130 21 (s_const (1)) := ok_iconst (n := 1) (by decide +kernel) (by decide) rfl
theorem o130_22 : OKp l S b Lx xs dC dI cA 130 22 (s_bin g_iadd) := ok_iadd (by decide +kernel) rfl
theorem o130_23 : OKp l S b Lx xs dC dI cA 130 23 (s_iald) := ok_iald (by decide +kernel) rfl
theorem o130_24 : OKp l S b Lx xs dC dI cA 130 24 (s_icmp (fun x y => x ≤ y) 27) := ok_icmp_le (off := 9) (by decide +kernel) (by decide +kernel) rfl
theorem o130_25 : OKp l S b Lx xs dC dI cA 130 25 (s_iinc 3 (-1)) := ok_iinc (n := -1) (by decide +kernel) (by decide) rfl
theorem o130_26 : OKp l S b Lx xs dC dI cA 130 26 (s_goto 12) := ok_goto (off := -24) (by decide +kernel) (by decide +kernel)
theorem o130_27 : OKp l S b Lx xs dC dI cA 130 27 (s_iload 3) := ok_iload_n (k9 := 3) (by decide +kernel) rfl rfl
theorem o130_28 : OKp l S b Lx xs dC dI cA 130 28 (s_if (fun x => 0 ≤ x) 31) := ok_if_ge (off := 6) (by decide +kernel) (by decide +kernel) rfl
theorem o130_29 : OKp l S b Lx xs dC dI cA 130 29 (s_const (-4)) := ok_bipush (n := -4) (by decide +kernel) (by decide) rfl
theorem o130_30 : OKp l S b Lx xs dC dI cA 130 30 (s_ret) := ok_ret (by decide +kernel) rfl
theorem o130_31 : OKp l S b Lx xs dC dI cA 130 31 (s_iload 2) := ok_iload_n (k9 := 2) (by decide +kernel) rfl rfl
theorem o130_32 : OKp l S b Lx xs dC dI cA 130 32 (s_istore 4) := ok_istore (by decide +kernel) rfl
theorem o130_33 : OKp l S b Lx xs dC dI cA 130 33 (s_iload 4) := ok_iload (by decide +kernel) rfl
theorem o130_34 : OKp l S b Lx xs dC dI cA 130 34 (s_iload 3) := ok_iload_n (k9 := 3) (by decide +kernel) rfl rfl
theorem o130_35 : OKp l S b Lx xs dC dI cA 130 35 (s_icmp (fun x y => x ≤ y) 47) := ok_icmp_le (off := 25) (by decide +kernel) (by decide +kernel) rfl
theorem o130_36 : OKp l S b Lx xs dC dI cA 130 36 (s_aload 0) := ok_aload_n (k9 := 0) (by decide +kernel) rfl rfl
theorem o130_37 : OKp l S b Lx xs dC dI cA 130 37 (s_getR (fun t => t == 11) 6) := ok_getR (by decide +kernel) rfl fd_RX11_36
theorem o130_38 : OKp l S b Lx xs dC dI cA 130 38 (s_iload 4) := ok_iload (by decide +kernel) rfl
theorem o130_39 : OKp l S b Lx xs dC dI cA 130 39 (s_iald) := ok_iald (by decide +kernel) rfl
theorem o130_40 : OKp l S b Lx xs dC dI cA 130 40 (s_aload 0) := ok_aload_n (k9 := 0) (by decide +kernel) rfl rfl
theorem o130_41 : OKp l S b Lx xs dC dI cA 130 41 (s_getR (fun t => t == 11) 6) := ok_getR (by decide +kernel) rfl fd_RX11_36
theorem o130_42 : OKp l S b Lx xs dC dI cA 130 42 (s_iload 3) := ok_iload_n (k9 := 3) (by decide +kernel) rfl rfl
theorem o130_43 : OKp l S b Lx xs dC dI cA 130 43 (s_iald) := ok_iald (by decide +kernel) rfl
theorem o130_44 : OKp l S b Lx xs dC dI cA 130 44 (s_icmp (fun x y => y ≤ x) 47) := ok_icmp_ge (off := 9) (by decide +kernel) (by decide +kernel) rfl
theorem o130_45 : OKp l S b Lx xs dC dI cA 130 45 (s_iinc 4 (-1)) := ok_iinc (n := -1) (by decide +kernel) (by decide) rfl
theorem o130_46 : OKp l S b Lx xs dC dI cA 130 46 (s_goto 33) := ok_goto (off := -25) (by decide +kernel) (by decide +kernel)
theorem o130_47 : OKp l S b Lx xs dC dI cA 130 47 (s_aload 0) := ok_aload_n (k9 := 0) (by decide +kernel) rfl rfl
theorem o130_48 : OKp l S b Lx xs dC dI cA 130 48 (s_iload 3) := ok_iload_n (k9 := 3) (by decide +kernel) rfl rfl
theorem o130_49 : OKp l S b Lx xs dC dI cA 130 49 (s_iload 4) := ok_iload (by decide +kernel) rfl
theorem o130_50 : OKp l S b Lx xs dC dI cA 130 50 (s_invV (dv1 11 131 4) [] 2) := ok_invV (dv1_ok vc_RX11_290_11 rfl (by decide) (hXX 131 (by decide))) (by decide +kernel) rfl
theorem o130_51 : OKp l S b Lx xs dC dI cA 130 51 (s_iload 3) := ok_iload_n (k9 := 3) (by decide +kernel) rfl rfl
theorem o130_52 : OKp l S b Lx xs dC dI cA 130 52 (s_const (1)) := ok_iconst (n := 1) (by decide +kernel) (by decide) rfl
theorem o130_53 : OKp l S b Lx xs dC dI cA 130 53 (s_bin g_iadd) := ok_iadd (by decide +kernel) rfl
theorem o130_54 : OKp l S b Lx xs dC dI cA 130 54 (s_istore 5) := ok_istore (by decide +kernel) rfl
theorem o130_55 : OKp l S b Lx xs dC dI cA 130 55 (s_iload 2) := ok_iload_n (k9 := 2) (by decide +kernel) rfl rfl
theorem o130_56 : OKp l S b Lx xs dC dI cA 130 56 (s_istore 6) := ok_istore (by decide +kernel) rfl
theorem o130_57 : OKp l S b Lx xs dC dI cA 130 57 (s_iload 5) := ok_iload (by decide +kernel) rfl
theorem o130_58 : OKp l S b Lx xs dC dI cA 130 58 (s_iload 6) := ok_iload (by decide +kernel) rfl
theorem o130_59 : OKp l S b Lx xs dC dI cA 130 59 (s_icmp (fun x y => y ≤ x) 67) := ok_icmp_ge (off := 20) (by decide +kernel) (by decide +kernel) rfl
theorem o130_60 : OKp l S b Lx xs dC dI cA 130 60 (s_aload 0) := ok_aload_n (k9 := 0) (by decide +kernel) rfl rfl
theorem o130_61 : OKp l S b Lx xs dC dI cA 130 61 (s_iload 5) := ok_iload (by decide +kernel) rfl
theorem o130_62 : OKp l S b Lx xs dC dI cA 130 62 (s_iload 6) := ok_iload (by decide +kernel) rfl
theorem o130_63 : OKp l S b Lx xs dC dI cA 130 63 (s_invV (dv1 11 131 4) [] 2) := ok_invV (dv1_ok vc_RX11_290_11 rfl (by decide) (hXX 131 (by decide))) (by decide +kernel) rfl
theorem o130_64 : OKp l S b Lx xs dC dI cA 130 64 (s_iinc 5 (1)) := ok_iinc (n := 1) (by decide +kernel) (by decide) rfl
theorem o130_65 : OKp l S b Lx xs dC dI cA 130 65 (s_iinc 6 (-1)) := ok_iinc (n := -1) (by decide +kernel) (by decide) rfl
theorem o130_66 : OKp l S b Lx xs dC dI cA 130 66 (s_goto 57) := ok_goto (off := -21) (by decide +kernel) (by decide +kernel)
theorem o130_67 : OKp l S b Lx xs dC dI cA 130 67 (s_iload 3) := ok_iload_n (k9 := 3) (by decide +kernel) rfl rfl
theorem o130_68 : OKp l S b Lx xs dC dI cA 130 68 (s_ret) := ok_ret (by decide +kernel) rfl
theorem a130_0 (hl9 : l.stackTraces = false) : sm_all (OKp l S b Lx xs dC dI cA 130) 0 sc_130_0 := ⟨o130_0, o130_1, o130_2, o130_3, o130_4, o130_5, o130_6, o130_7, o130_8, o130_9, o130_10, o130_11, o130_12, o130_13, o130_14, o130_15, o130_16, o130_17, o130_18, o130_19, o130_20, o130_21, o130_22, o130_23, o130_24, o130_25, o130_26, o130_27, o130_28, o130_29, o130_30, o130_31, o130_32, o130_33, o130_34, o130_35, o130_36, o130_37, o130_38, o130_39, o130_40, o130_41, o130_42, o130_43, o130_44, o130_45, o130_46, o130_47, o130_48, o130_49, o130_50, o130_51, o130_52, o130_53, o130_54, o130_55, o130_56, o130_57, o130_58, o130_59, trivial⟩
theorem a130_1 (hl9 : l.stackTraces = false) : sm_all (OKp l S b Lx xs dC dI cA 130) 60 sc_130_1 := ⟨o130_60, o130_61, o130_62, o130_63, o130_64, o130_65, o130_66, o130_67, o130_68, trivial⟩
theorem a130 (hl9 : l.stackTraces = false) : sm_all (OKp l S b Lx xs dC dI cA 130) 0 sc_130 := sm_all_app _ _ _ (a130_0 hl9) (a130_1 hl9)
end SMOKS
