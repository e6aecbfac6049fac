section SMOKS
variable {l : Launch} {S b Lx : Nat} {xs : Nat → Int32} {dC : Nat → ClassId} {dI : Nat → Nat → Nat} {cA : Nat → ClassId}
theorem o225_0 : OKp l S b Lx xs dC dI cA 225 0 (s_iload 0) := ok_iload_n (k9 := 0) (by decide +kernel) rfl rfl
theorem o225_1 : OKp l S b Lx xs dC dI cA 225 1 (s_iload 1) := ok_iload_n (k9 := 1) (by decide +kernel) rfl rfl
theorem o225_2 : OKp l S b Lx xs dC dI cA 225 2 (s_icmp (fun x y => x < y) 5) := ok_icmp_lt (off := 7) (by decide +kernel) (by decide +kernel) rfl
theorem o225_3 : OKp l S b Lx xs dC dI cA 225 3 (s_iload 0) := ok_iload_n (k9 := 0) (by decide +kernel) rfl rfl
theorem o225_4 : OKp l S b Lx xs dC dI cA 225 4 (s_goto 6) := ok_goto (off := 4) (by decide +kernel) (by decide +kernel)
theorem o225_5 : OKp l S b Lx xs dC dI cA 225 5 (s_iload 1) := ok_iload_n (k9 := 1) (by decide +kernel) rfl rfl
theorem o225_6 : OKp l S b Lx xs dC dI cA 225 6 (s_ret) := ok_ret (by decide +kernel) rfl
theorem a225 (hl9 : l.stackTraces = false) : sm_all (OKp l S b Lx xs dC dI cA 225) 0 sc_225 := ⟨o225_0, o225_1, o225_2, o225_3, o225_4, o225_5, o225_6, trivial⟩
theorem o226_0 : OKp l S b Lx xs dC dI cA 226 0 (s_iload 0) := ok_iload_n (k9 := 0) (by decide +kernel) rfl rfl
theorem o226_1 : OKp l S b Lx xs dC dI cA 226 1 (s_iload 1) := ok_iload_n (k9 := 1) (by decide +kernel) rfl rfl
theorem o226_2 : OKp l S b Lx xs dC dI cA 226 2 (s_icmp (fun x y => y < x) 5) := ok_icmp_gt (off := 7) (by decide +kernel) (by decide +kernel) rfl
theorem o226_3 : OKp l S b Lx xs dC dI cA 226 3 (s_iload 0) := ok_iload_n (k9 := 0) (by decide +kernel) rfl rfl
theorem o226_4 : OKp l S b Lx xs dC dI cA 226 4 (s_goto 6) := ok_goto (off := 4) (by decide +kernel) (by decide +kernel)
theorem o226_5 : OKp l S b Lx xs dC dI cA 226 5 (s_iload 1) := ok_iload_n (k9 := 1) (by decide +kernel) rfl rfl
theorem o226_6 : OKp l S b Lx xs dC dI cA 226 6 (s_ret) := ok_ret (by decide +kernel) rfl
theorem a226 (hl9 : l.stackTraces = false) : sm_all (OKp l S b Lx xs dC dI cA 226) 0 sc_226 := ⟨o226_0, o226_1, o226_2, o226_3, o226_4, o226_5, o226_6, trivial⟩
theorem o227_0 : OKp l S b Lx xs dC dI cA 227 0 (s_aload 3) := ok_aload_n (k9 := 3) (by decide +kernel) rfl rfl
theorem o227_1 : OKp l S b Lx xs dC dI cA 227 1 (s_const (0)) := ok_iconst (n := 0) (by decide +kernel) (by decide) rfl
theorem o227_2 : OKp l S b Lx xs dC dI cA 227 2 (s_aload 0) := ok_aload_n (k9 := 0) (by decide +kernel) rfl rfl
theorem o227_3 : OKp l S b Lx xs dC dI cA 227 3 (s_iload 1) := ok_iload_n (k9 := 1) (by decide +kernel) rfl rfl
theorem o227_4 : OKp l S b Lx xs dC dI cA 227 4 (s_iload 2) := ok_iload_n (k9 := 2) (by decide +kernel) rfl rfl
theorem o227_5 : OKp l S b Lx xs dC dI cA 227 5 (s_invVH (dv1 11 108 4) [(1, 9, 4), (0, 12, 4)] 2) := ok_invVH (by decide +kernel) (dv1_ok vc_RL_7_11 rfl (by decide) (hXX 108 (by decide))) hd_227 (by decide +kernel) rfl
theorem o227_6 : OKp l S b Lx xs dC dI cA 227 6 (s_last) := ok_last (by decide +kernel) rfl
theorem o227_7 : OKp l S b Lx xs dC dI cA 227 7 (s_goto 14) := ok_goto (off := 11) (by decide +kernel) (by decide +kernel)
theorem o227_8 : OKp l S b Lx xs dC dI cA 227 8 (s_astore 4) := ok_astore (by decide +kernel) rfl
theorem o227_9 : OKp l S b Lx xs dC dI cA 227 9 (s_const (1)) := ok_iconst (n := 1) (by decide +kernel) (by decide) rfl
theorem o227_10 : OKp l S b Lx xs dC dI cA 227 10 (s_ret) := ok_ret (by decide +kernel) rfl
theorem o227_11 : OKp l S b Lx xs dC dI cA 227 11 (s_astore 4) := ok_astore (by decide +kernel) rfl
theorem o227_12 : OKp l S b Lx xs dC dI cA 227 12 (s_const (2)) := ok_iconst (n := 2) (by decide +kernel) (by decide) rfl
theorem o227_13 : OKp l S b Lx xs dC dI cA 227 13 (s_ret) := ok_ret (by decide +kernel) rfl
theorem o227_14 : OKp l S b Lx xs dC dI cA 227 14 (s_const (0)) := ok_iconst (n := 0) (by decide +kernel) (by decide) rfl
theorem o227_15 : OKp l S b Lx xs dC dI cA 227 15 (s_ret) := ok_ret (by decide +kernel) rfl
theorem a227 (hl9 : l.stackTraces = false) : sm_all (OKp l S b Lx xs dC dI cA 227) 0 sc_227 := ⟨o227_0, o227_1, o227_2, o227_3, o227_4, o227_5, o227_6, o227_7, o227_8, o227_9, o227_10, o227_11, o227_12, o227_13, o227_14, o227_15, trivial⟩
theorem o228_0 : OKp l S b Lx xs dC dI cA 228 0 (s_new 11 9) := ok_new (C := RX11) (T := TX11) (ty := tyX11) rfl inX11 tyX11_ok w_78 w_79 w_57 df_11 (by decide +kernel) rfl
theorem o228_1 : OKp l S b Lx xs dC dI cA 228 1 (s_dup) := ok_dup (by decide +kernel) rfl
theorem o228_2 : OKp l S b Lx xs dC dI cA 228 2 (s_invI 77 0 2) := ok_invI rfl rfl (by decide) (hXX 77 (by decide)) w_80 w_81 w_57 c_77 rfl rfl (by decide +kernel) (by decide +kernel) rfl
theorem o228_3 : OKp l S b Lx xs dC dI cA 228 3 (s_astore 1) := ok_astore_n (k9 := 1) (by decide +kernel) rfl rfl
theorem o228_4 : OKp l S b Lx xs dC dI cA 228 4 (s_new 12 21) := ok_new (C := RX12) (T := TX12) (ty := tyX12) rfl inX12 tyX12_ok w_926 w_927 w_61 df_12 (by decide +kernel) rfl
theorem o228_5 : OKp l S b Lx xs dC dI cA 228 5 (s_dup) := ok_dup (by decide +kernel) rfl
theorem o228_6 : OKp l S b Lx xs dC dI cA 228 6 (s_invI 137 0 1) := ok_invI rfl rfl (by decide) (hXX 137 (by decide)) w_928 w_929 w_61 c_137 rfl rfl (by decide +kernel) (by decide +kernel) rfl
theorem o228_7 : OKp l S b Lx xs dC dI cA 228 7 (s_astore 2) := ok_astore_n (k9 := 2) (by decide +kernel) rfl rfl
theorem o228_8 : OKp l S b Lx xs dC dI cA 228 8 (s_const (1)) := ok_iconst (n := 1) (by decide +kernel) (by decide) rfl
theorem o228_9 : OKp l S b Lx xs dC dI cA 228 9 (s_newarr 51) := ok_newarr_l w_1343 (by decide +kernel) rfl
theorem o228_10 : OKp l S b Lx xs dC dI cA 228 10 (s_astore 3) := ok_astore_n (k9 := 3) (by decide +kernel) rfl rfl
theorem o228_11 : OKp l S b Lx xs dC dI cA 228 11 (s_const (0)) := ok_iconst (n := 0) (by decide +kernel) (by decide) rfl
theorem o228_12 : OKp l S b Lx xs dC dI cA 228 12 (s_istore 4) := ok_istore (by decide +kernel) rfl
theorem o228_13 : OKp l S b Lx xs dC dI cA 228 13 (s_iload 4) := ok_iload (by decide +kernel) rfl
theorem o228_14 : OKp l S b Lx xs dC dI cA 228 14 (s_aload 0) := ok_aload_n (k9 := 0) (by decide +kernel) rfl rfl
theorem o228_15 : OKp l S b Lx xs dC dI cA 228 15 (s_slen) := ok_slen (fun s h => h rfl) (by decide +kernel) rfl
theorem o228_16 : OKp l S b Lx xs dC dI cA 228 16 (s_const (6)) := ok_bipush (n := 6) (by decide +kernel) (by decide) rfl
theorem o228_17 : OKp l S b Lx xs dC dI cA 228 17 (s_bin g_isub) := ok_isub (by decide +kernel) rfl
theorem o228_18 : OKp l S b Lx xs dC dI cA 228 18 (s_icmp (fun x y => y < x) 1009) := ok_icmp_gt (off := 1521) (by decide +kernel) (by decide +kernel) rfl
theorem o228_19 : OKp l S b Lx xs dC dI cA 228 19 (s_aload 0) := ok_aload_n (k9 := 0) (by decide +kernel) rfl rfl
theorem o228_20 : OKp l S b Lx xs dC dI cA 228 20 (s_iload 4) := ok_iload (by decide +kernel) rfl
theorem o228_21 : OKp l S b Lx xs dC dI cA 228 21 (s_sld) := ok_sld (fun s h => h rfl) (by decide +kernel) rfl
theorem o228_22 : OKp l S b Lx xs dC dI cA 228 22 (s_const (63)) := ok_bipush (n := 63) (by decide +kernel) (by decide) rfl
theorem o228_23 : OKp l S b Lx xs dC dI cA 228 23 (s_bin g_iand) := ok_iand (by decide +kernel) rfl
theorem o228_24 : OKp l S b Lx xs dC dI cA 228 24 (s_sw [(0, 25), (1, 42), (2, 69), (3, 106), (4, 133), (5, 150), (6, 177), (7, 204), (8, 231), (9, 248), (10, 275), (11, 312), (12, 349), (13, 376), (14, 413), (15, 440), (16, 467), (17, 484), (18, 511), (19, 548), (20, 585), (21, 622), (22, 659), (23, 686), (24, 703), (25, 710), (26, 717), (27, 734), (28, 781), (29, 818), (30, 855), (31, 899), (32, 956), (33, 973), (34, 990)] 1007) := ok_table (dflt := 1505) (lo := 0) (hi := 34) (offs := #[156, 181, 218, 267, 304, 329, 366, 403, 440, 465, 502, 551, 600, 637, 686, 723, 760, 785, 822, 871, 920, 969, 1018, 1055, 1080, 1093, 1106, 1131, 1192, 1241, 1290, 1357, 1430, 1455, 1480]) (len := 156) (by decide +kernel) (by decide +kernel) (by decide +kernel) (by decide +kernel) (by decide +kernel)
theorem o228_25 : OKp l S b Lx xs dC dI cA 228 25 (s_aload 1) := ok_aload_n (k9 := 1) (by decide +kernel) rfl rfl
theorem o228_26 : OKp l S b Lx xs dC dI cA 228 26 (s_aload 0) := ok_aload_n (k9 := 0) (by decide +kernel) rfl rfl
theorem o228_27 : OKp l S b Lx xs dC dI cA 228 27 (s_iload 4) := ok_iload (by decide +kernel) rfl
theorem o228_28 : OKp l S b Lx xs dC dI cA 228 28 (s_const (1)) := ok_iconst (n := 1) (by decide +kernel) (by decide) rfl
theorem o228_29 : OKp l S b Lx xs dC dI cA 228 29 (s_bin g_iadd) := ok_iadd (by decide +kernel) rfl
theorem o228_30 : OKp l S b Lx xs dC dI cA 228 30 (s_sld) := ok_sld (fun s h => h rfl) (by decide +kernel) rfl
theorem o228_31 : OKp l S b Lx xs dC dI cA 228 31 (s_invV (dv1 11 78 7) [] 1) := ok_invV (dv1_ok vc_RL_21_11 rfl (by decide) (hXX 78 (by decide))) (by decide +kernel) rfl
theorem o228_32 : OKp l S b Lx xs dC dI cA 228 32 (s_aload 2) := ok_aload_n (k9 := 2) (by decide +kernel) rfl rfl
theorem o228_33 : OKp l S b Lx xs dC dI cA 228 33 (s_aload 0) := ok_aload_n (k9 := 0) (by decide +kernel) rfl rfl
theorem o228_34 : OKp l S b Lx xs dC dI cA 228 34 (s_iload 4) := ok_iload (by decide +kernel) rfl
theorem o228_35 : OKp l S b Lx xs dC dI cA 228 35 (s_const (1)) := ok_iconst (n := 1) (by decide +kernel) (by decide) rfl
theorem o228_36 : OKp l S b Lx xs dC dI cA 228 36 (s_bin g_iadd) := ok_iadd (by decide +kernel) rfl
theorem o228_37 : OKp l S b Lx xs dC dI cA 228 37 (s_sld) := ok_sld (fun s h => h rfl) (by decide +kernel) rfl
theorem o228_38 : OKp l S b Lx xs dC dI cA 228 38 (s_invV (dv1 12 169 7) [] 1) := ok_invV (dv1_ok vc_RL_25_12 rfl (by decide) (hXX 169 (by decide))) (by decide +kernel) rfl
theorem o228_39 : OKp l S b Lx xs dC dI cA 228 39 (s_icmp (fun x y => x = y) 1007) := ok_icmp_eq (off := 1329) (by decide +kernel) (by decide +kernel) rfl
theorem o228_40 : OKp l S b Lx xs dC dI cA 228 40 (s_const (0)) := ok_iconst (n := 0) (by decide +kernel) (by decide) rfl
theorem o228_41 : OKp l S b Lx xs dC dI cA 228 41 (s_zret) := ok_zret (by decide +kernel) rfl
theorem o228_42 : OKp l S b Lx xs dC dI cA 228 42 (s_aload 1) := ok_aload_n (k9 := 1) (by decide +kernel) rfl rfl
theorem o228_43 : OKp l S b Lx xs dC dI cA 228 43 (s_aload 0) := ok_aload_n (k9 := 0) (by decide +kernel) rfl rfl
theorem o228_44 : OKp l S b Lx xs dC dI cA 228 44 (s_iload 4) := ok_iload (by decide +kernel) rfl
theorem o228_45 : OKp l S b Lx xs dC dI cA 228 45 (s_const (1)) := ok_iconst (n := 1) (by decide +kernel) (by decide) rfl
theorem o228_46 : OKp l S b Lx xs dC dI cA 228 46 (s_bin g_iadd) := ok_iadd (by decide +kernel) rfl
theorem o228_47 : OKp l S b Lx xs dC dI cA 228 47 (s_sld) := ok_sld (fun s h => h rfl) (by decide +kernel) rfl
theorem o228_48 : OKp l S b Lx xs dC dI cA 228 48 (s_aload 0) := ok_aload_n (k9 := 0) (by decide +kernel) rfl rfl
theorem o228_49 : OKp l S b Lx xs dC dI cA 228 49 (s_iload 4) := ok_iload (by decide +kernel) rfl
theorem o228_50 : OKp l S b Lx xs dC dI cA 228 50 (s_const (2)) := ok_iconst (n := 2) (by decide +kernel) (by decide) rfl
theorem o228_51 : OKp l S b Lx xs dC dI cA 228 51 (s_bin g_iadd) := ok_iadd (by decide +kernel) rfl
theorem o228_52 : OKp l S b Lx xs dC dI cA 228 52 (s_sld) := ok_sld (fun s h => h rfl) (by decide +kernel) rfl
theorem o228_53 : OKp l S b Lx xs dC dI cA 228 53 (s_invV (dv1 11 79 4) [] 2) := ok_invV (dv1_ok vc_RL_26_11 rfl (by decide) (hXX 79 (by decide))) (by decide +kernel) rfl
theorem o228_54 : OKp l S b Lx xs dC dI cA 228 54 (s_aload 2) := ok_aload_n (k9 := 2) (by decide +kernel) rfl rfl
theorem o228_55 : OKp l S b Lx xs dC dI cA 228 55 (s_aload 0) := ok_aload_n (k9 := 0) (by decide +kernel) rfl rfl
theorem o228_56 : OKp l S b Lx xs dC dI cA 228 56 (s_iload 4) := ok_iload (by decide +kernel) rfl
theorem o228_57 : OKp l S b Lx xs dC dI cA 228 57 (s_const (1)) := ok_iconst (n := 1) (by decide +kernel) (by decide) rfl
theorem o228_58 : OKp l S b Lx xs dC dI cA 228 58 (s_bin g_iadd) := ok_iadd (by decide +kernel) rfl
theorem o228_59 : OKp l S b Lx xs dC dI cA 228 59 (s_sld) := ok_sld (fun s h => h rfl) (by decide +kernel) rfl
theorem o228_60 : OKp l S b Lx xs dC dI cA 228 60 (s_aload 0) := ok_aload_n (k9 := 0) (by decide +kernel) rfl rfl
theorem o228_61 : OKp l S b Lx xs dC dI cA 228 61 (s_iload 4) := ok_iload (by decide +kernel) rfl
theorem o228_62 : OKp l S b Lx xs dC dI cA 228 62 (s_const (2)) := ok_iconst (n := 2) (by decide +kernel) (by decide) rfl
theorem o228_63 : OKp l S b Lx xs dC dI cA 228 63 (s_bin g_iadd) := ok_iadd (by decide +kernel) rfl
theorem o228_64 : OKp l S b Lx xs dC dI cA 228 64 (s_sld) := ok_sld (fun s h => h rfl) (by decide +kernel) rfl
theorem o228_65 : OKp l S b Lx xs dC dI cA 228 65 (s_invV (dv1 12 170 3) [] 2) := ok_invV (dv1_ok vc_RL_30_12 rfl (by decide) (hXX 170 (by decide))) (by decide +kernel) rfl
theorem o228_66 : OKp l S b Lx xs dC dI cA 228 66 (s_icmp (fun x y => x = y) 1007) := ok_icmp_eq (off := 1292) (by decide +kernel) (by decide +kernel) rfl
theorem o228_67 : OKp l S b Lx xs dC dI cA 228 67 (s_const (0)) := ok_iconst (n := 0) (by decide +kernel) (by decide) rfl
theorem o228_68 : OKp l S b Lx xs dC dI cA 228 68 (s_zret) := ok_zret (by decide +kernel) rfl
theorem o228_69 : OKp l S b Lx xs dC dI cA 228 69 (s_aload 1) := ok_aload_n (k9 := 1) (by decide +kernel) rfl rfl
theorem o228_70 : OKp l S b Lx xs dC dI cA 228 70 (s_aload 0) := ok_aload_n (k9 := 0) (by decide +kernel) rfl rfl
theorem o228_71 : OKp l S b Lx xs dC dI cA 228 71 (s_iload 4) := ok_iload (by decide +kernel) rfl
theorem o228_72 : OKp l S b Lx xs dC dI cA 228 72 (s_const (1)) := ok_iconst (n := 1) (by decide +kernel) (by decide) rfl
theorem o228_73 : OKp l S b Lx xs dC dI cA 228 73 (s_bin g_iadd) := ok_iadd (by decide +kernel) rfl
theorem o228_74 : OKp l S b Lx xs dC dI cA 228 74 (s_sld) := ok_sld (fun s h => h rfl) (by decide +kernel) rfl
theorem o228_75 : OKp l S b Lx xs dC dI cA 228 75 (s_aload 0) := ok_aload_n (k9 := 0) (by decide +kernel) rfl rfl
theorem o228_76 : OKp l S b Lx xs dC dI cA 228 76 (s_iload 4) := ok_iload (by decide +kernel) rfl
theorem o228_77 : OKp l S b Lx xs dC dI cA 228 77 (s_const (2)) := ok_iconst (n := 2) (by decide +kernel) (by decide) rfl
theorem o228_78 : OKp l S b Lx xs dC dI cA 228 78 (s_bin g_iadd) := ok_iadd (by decide +kernel) rfl
theorem o228_79 : OKp l S b Lx xs dC dI cA 228 79 (s_sld) := ok_sld (fun s h => h rfl) (by decide +kernel) rfl
theorem o228_80 : OKp l S b Lx xs dC dI cA 228 80 (s_aload 0) := ok_aload_n (k9 := 0) (by decide +kernel) rfl rfl
theorem o228_81 : OKp l S b Lx xs dC dI cA 228 81 (s_iload 4) := ok_iload (by decide +kernel) rfl
theorem o228_82 : OKp l S b Lx xs dC dI cA 228 82 (s_const (3)) := ok_iconst (n := 3) (by decide +kernel) (by decide) rfl
theorem o228_83 : OKp l S b Lx xs dC dI cA 228 83 (s_bin g_iadd) := ok_iadd (by decide +kernel) rfl
theorem o228_84 : OKp l S b Lx xs dC dI cA 228 84 (s_sld) := ok_sld (fun s h => h rfl) (by decide +kernel) rfl
theorem o228_85 : OKp l S b Lx xs dC dI cA 228 85 (s_invV (dv1 11 80 5) [] 3) := ok_invV (dv1_ok vc_RL_31_11 rfl (by decide) (hXX 80 (by decide))) (by decide +kernel) rfl
theorem o228_86 : OKp l S b Lx xs dC dI cA 228 86 (s_aload 2) := ok_aload_n (k9 := 2) (by decide +kernel) rfl rfl
theorem o228_87 : OKp l S b Lx xs dC dI cA 228 87 (s_aload 0) := ok_aload_n (k9 := 0) (by decide +kernel) rfl rfl
theorem o228_88 : OKp l S b Lx xs dC dI cA 228 88 (s_iload 4) := ok_iload (by decide +kernel) rfl
theorem o228_89 : OKp l S b Lx xs dC dI cA 228 89 (s_const (1)) := ok_iconst (n := 1) (by decide +kernel) (by decide) rfl
theorem o228_90 : OKp l S b Lx xs dC dI cA 228 90 (s_bin g_iadd) := ok_iadd (by decide +kernel) rfl
theorem o228_91 : OKp l S b Lx xs dC dI cA 228 91 (s_sld) := ok_sld (fun s h => h rfl) (by decide +kernel) rfl
theorem o228_92 : OKp l S b Lx xs dC dI cA 228 92 (s_aload 0) := ok_aload_n (k9 := 0) (by decide +kernel) rfl rfl
theorem o228_93 : OKp l S b Lx xs dC dI cA 228 93 (s_iload 4) := ok_iload (by decide +kernel) rfl
theorem o228_94 : OKp l S b Lx xs dC dI cA 228 94 (s_const (2)) := ok_iconst (n := 2) (by decide +kernel) (by decide) rfl
theorem o228_95 : OKp l S b Lx xs dC dI cA 228 95 (s_bin g_iadd) := ok_iadd (by decide +kernel) rfl
theorem o228_96 : OKp l S b Lx xs dC dI cA 228 96 (s_sld) := ok_sld (fun s h => h rfl) (by decide +kernel) rfl
theorem o228_97 : OKp l S b Lx xs dC dI cA 228 97 (s_aload 0) := ok_aload_n (k9 := 0) (by decide +kernel) rfl rfl
theorem o228_98 : OKp l S b Lx xs dC dI cA 228 98 (s_iload 4) := ok_iload (by decide +kernel) rfl
theorem o228_99 : OKp l S b Lx xs dC dI cA 228 99 (s_const (3)) := ok_iconst (n := 3) (by decide +kernel) (by decide) rfl
theorem o228_100 : OKp l S b Lx xs dC dI cA 228 100 (s_bin g_iadd) := ok_iadd (by decide +kernel) rfl
theorem o228_101 : OKp l S b Lx xs dC dI cA 228 101 (s_sld) := ok_sld (fun s h => h rfl) (by decide +kernel) rfl
theorem o228_102 : OKp l S b Lx xs dC dI cA 228 102 (s_invV (dv1 12 171 4) [] 3) := ok_invV (dv1_ok vc_RL_35_12 rfl (by decide) (hXX 171 (by decide))) (by decide +kernel) rfl
theorem o228_103 : OKp l S b Lx xs dC dI cA 228 103 (s_icmp (fun x y => x = y) 1007) := ok_icmp_eq (off := 1243) (by decide +kernel) (by decide +kernel) rfl
theorem o228_104 : OKp l S b Lx xs dC dI cA 228 104 (s_const (0)) := ok_iconst (n := 0) (by decide +kernel) (by decide) rfl
theorem o228_105 : OKp l S b Lx xs dC dI cA 228 105 (s_zret) := ok_zret (by decide +kernel) rfl
theorem o228_106 : OKp l S b Lx xs dC dI cA 228 106 (s_aload 1) := ok_aload_n (k9 := 1) (by decide +kernel) rfl rfl
theorem o228_107 : OKp l S b Lx xs dC dI cA 228 107 (s_aload 0) := ok_aload_n (k9 := 0) (by decide +kernel) rfl rfl
theorem o228_108 : OKp l S b Lx xs dC dI cA 228 108 (s_iload 4) := ok_iload (by decide +kernel) rfl
theorem o228_109 : OKp l S b Lx xs dC dI cA 228 109 (s_const (1)) := ok_iconst (n := 1) (by decide +kernel) (by decide) rfl
theorem o228_110 : OKp l S b Lx xs dC dI cA 228 110 (s_bin g_iadd) := ok_iadd (by decide +kernel) rfl
theorem o228_111 : OKp l S b Lx xs dC dI cA 228 111 (s_sld) := ok_sld (fun s h => h rfl) (by decide +kernel) rfl
theorem o228_112 : OKp l S b Lx xs dC dI cA 228 112 (s_aload 0) := ok_aload_n (k9 := 0) (by decide +kernel) rfl rfl
theorem o228_113 : OKp l S b Lx xs dC dI cA 228 113 (s_iload 4) := ok_iload (by decide +kernel) rfl
theorem o228_114 : OKp l S b Lx xs dC dI cA 228 114 (s_const (2)) := ok_iconst (n := 2) (by decide +kernel) (by decide) rfl
theorem o228_115 : OKp l S b Lx xs dC dI cA 228 115 (s_bin g_iadd) := ok_iadd (by decide +kernel) rfl
theorem o228_116 : OKp l S b Lx xs dC dI cA 228 116 (s_sld) := ok_sld (fun s h => h rfl) (by decide +kernel) rfl
theorem o228_117 : OKp l S b Lx xs dC dI cA 228 117 (s_invV (dv1 11 81 4) [] 2) := ok_invV (dv1_ok vc_RL_36_11 rfl (by decide) (hXX 81 (by decide))) (by decide +kernel) rfl
theorem o228_118 : OKp l S b Lx xs dC dI cA 228 118 (s_aload 2) := ok_aload_n (k9 := 2) (by decide +kernel) rfl rfl
theorem o228_119 : OKp l S b Lx xs dC dI cA 228 119 (s_aload 0) := ok_aload_n (k9 := 0) (by decide +kernel) rfl rfl
theorem o228_120 : OKp l S b Lx xs dC dI cA 228 120 (s_iload 4) := ok_iload (by decide +kernel) rfl
theorem o228_121 : OKp l S b Lx xs dC dI cA 228 121 (s_const (1)) := ok_iconst (n := 1) (by decide +kernel) (by decide) rfl
theorem o228_122 : OKp l S b Lx xs dC dI cA 228 122 (s_bin g_iadd) := ok_iadd (by decide +kernel) rfl
theorem o228_123 : OKp l S b Lx xs dC dI cA 228 123 (s_sld) := ok_sld (fun s h => h rfl) (by decide +kernel) rfl
theorem o228_124 : OKp l S b Lx xs dC dI cA 228 124 (s_aload 0) := ok_aload_n (k9 := 0) (by decide +kernel) rfl rfl
theorem o228_125 : OKp l S b Lx xs dC dI cA 228 125 (s_iload 4) := ok_iload (by decide +kernel) rfl
theorem o228_126 : OKp l S b Lx xs dC dI cA 228 126 (s_const (2)) := ok_iconst (n := 2) (by decide +kernel) (by decide) rfl
theorem o228_127 : OKp l S b Lx xs dC dI cA 228 127 (s_bin g_iadd) := ok_iadd (by decide +kernel) rfl
theorem o228_128 : OKp l S b Lx xs dC dI cA 228 128 (s_sld) := ok_sld (fun s h => h rfl) (by decide +kernel) rfl
theorem o228_129 : OKp l S b Lx xs dC dI cA 228 129 (s_invV (dv1 12 174 3) [] 2) := ok_invV (dv1_ok vc_RL_39_12 rfl (by decide) (hXX 174 (by decide))) (by decide +kernel) rfl
theorem o228_130 : OKp l S b Lx xs dC dI cA 228 130 (s_icmp (fun x y => x = y) 1007) := ok_icmp_eq (off := 1206) (by decide +kernel) (by decide +kernel) rfl
theorem o228_131 : OKp l S b Lx xs dC dI cA 228 131 (s_const (0)) := ok_iconst (n := 0) (by decide +kernel) (by decide) rfl
theorem o228_132 : OKp l S b Lx xs dC dI cA 228 132 (s_zret) := ok_zret (by decide +kernel) rfl
theorem o228_133 : OKp l S b Lx xs dC dI cA 228 133 (s_aload 1) := ok_aload_n (k9 := 1) (by decide +kernel) rfl rfl
theorem o228_134 : OKp l S b Lx xs dC dI cA 228 134 (s_aload 0) := ok_aload_n (k9 := 0) (by decide +kernel) rfl rfl
theorem o228_135 : OKp l S b Lx xs dC dI cA 228 135 (s_iload 4) := ok_iload (by decide +kernel) rfl
theorem o228_136 : OKp l S b Lx xs dC dI cA 228 136 (s_const (1)) := ok_iconst (n := 1) (by decide +kernel) (by decide) rfl
theorem o228_137 : OKp l S b Lx xs dC dI cA 228 137 (s_bin g_iadd) := ok_iadd (by decide +kernel) rfl
theorem o228_138 : OKp l S b Lx xs dC dI cA 228 138 (s_sld) := ok_sld (fun s h => h rfl) (by decide +kernel) rfl
theorem o228_139 : OKp l S b Lx xs dC dI cA 228 139 (s_invV (dv1 11 82 3) [] 1) := ok_invV (dv1_ok vc_RL_40_11 rfl (by decide) (hXX 82 (by decide))) (by decide +kernel) rfl
theorem o228_140 : OKp l S b Lx xs dC dI cA 228 140 (s_aload 2) := ok_aload_n (k9 := 2) (by decide +kernel) rfl rfl
theorem o228_141 : OKp l S b Lx xs dC dI cA 228 141 (s_aload 0) := ok_aload_n (k9 := 0) (by decide +kernel) rfl rfl
theorem o228_142 : OKp l S b Lx xs dC dI cA 228 142 (s_iload 4) := ok_iload (by decide +kernel) rfl
theorem o228_143 : OKp l S b Lx xs dC dI cA 228 143 (s_const (1)) := ok_iconst (n := 1) (by decide +kernel) (by decide) rfl
theorem o228_144 : OKp l S b Lx xs dC dI cA 228 144 (s_bin g_iadd) := ok_iadd (by decide +kernel) rfl
theorem o228_145 : OKp l S b Lx xs dC dI cA 228 145 (s_sld) := ok_sld (fun s h => h rfl) (by decide +kernel) rfl
theorem o228_146 : OKp l S b Lx xs dC dI cA 228 146 (s_invV (dv1 12 175 2) [] 1) := ok_invV (dv1_ok vc_RL_43_12 rfl (by decide) (hXX 175 (by decide))) (by decide +kernel) rfl
theorem o228_147 : OKp l S b Lx xs dC dI cA 228 147 (s_icmp (fun x y => x = y) 1007) := ok_icmp_eq (off := 1181) (by decide +kernel) (by decide +kernel) rfl
theorem o228_148 : OKp l S b Lx xs dC dI cA 228 148 (s_const (0)) := ok_iconst (n := 0) (by decide +kernel) (by decide) rfl
theorem o228_149 : OKp l S b Lx xs dC dI cA 228 149 (s_zret) := ok_zret (by decide +kernel) rfl
theorem o228_150 : OKp l S b Lx xs dC dI cA 228 150 (s_aload 1) := ok_aload_n (k9 := 1) (by decide +kernel) rfl rfl
theorem o228_151 : OKp l S b Lx xs dC dI cA 228 151 (s_aload 0) := ok_aload_n (k9 := 0) (by decide +kernel) rfl rfl
theorem o228_152 : OKp l S b Lx xs dC dI cA 228 152 (s_iload 4) := ok_iload (by decide +kernel) rfl
theorem o228_153 : OKp l S b Lx xs dC dI cA 228 153 (s_const (1)) := ok_iconst (n := 1) (by decide +kernel) (by decide) rfl
theorem o228_154 : OKp l S b Lx xs dC dI cA 228 154 (s_bin g_iadd) := ok_iadd (by decide +kernel) rfl
theorem o228_155 : OKp l S b Lx xs dC dI cA 228 155 (s_sld) := ok_sld (fun s h => h rfl) (by decide +kernel) rfl
theorem o228_156 : OKp l S b Lx xs dC dI cA 228 156 (s_aload 0) := ok_aload_n (k9 := 0) (by decide +kernel) rfl rfl
theorem o228_157 : OKp l S b Lx xs dC dI cA 228 157 (s_iload 4) := ok_iload (by decide +kernel) rfl
theorem o228_158 : OKp l S b Lx xs dC dI cA 228 158 (s_const (2)) := ok_iconst (n := 2) (by decide +kernel) (by decide) rfl
theorem o228_159 : OKp l S b Lx xs dC dI cA 228 159 (s_bin g_iadd) := ok_iadd (by decide +kernel) rfl
theorem o228_160 : OKp l S b Lx xs dC dI cA 228 160 (s_sld) := ok_sld (fun s h => h rfl) (by decide +kernel) rfl
theorem o228_161 : OKp l S b Lx xs dC dI cA 228 161 (s_invV (dv1 11 83 5) [] 2) := ok_invV (dv1_ok vc_RL_44_11 rfl (by decide) (hXX 83 (by decide))) (by decide +kernel) rfl
theorem o228_162 : OKp l S b Lx xs dC dI cA 228 162 (s_aload 2) := ok_aload_n (k9 := 2) (by decide +kernel) rfl rfl
theorem o228_163 : OKp l S b Lx xs dC dI cA 228 163 (s_aload 0) := ok_aload_n (k9 := 0) (by decide +kernel) rfl rfl
theorem o228_164 : OKp l S b Lx xs dC dI cA 228 164 (s_iload 4) := ok_iload (by decide +kernel) rfl
theorem o228_165 : OKp l S b Lx xs dC dI cA 228 165 (s_const (1)) := ok_iconst (n := 1) (by decide +kernel) (by decide) rfl
theorem o228_166 : OKp l S b Lx xs dC dI cA 228 166 (s_bin g_iadd) := ok_iadd (by decide +kernel) rfl
theorem o228_167 : OKp l S b Lx xs dC dI cA 228 167 (s_sld) := ok_sld (fun s h => h rfl) (by decide +kernel) rfl
theorem o228_168 : OKp l S b Lx xs dC dI cA 228 168 (s_aload 0) := ok_aload_n (k9 := 0) (by decide +kernel) rfl rfl
theorem o228_169 : OKp l S b Lx xs dC dI cA 228 169 (s_iload 4) := ok_iload (by decide +kernel) rfl
theorem o228_170 : OKp l S b Lx xs dC dI cA 228 170 (s_const (2)) := ok_iconst (n := 2) (by decide +kernel) (by decide) rfl
theorem o228_171 : OKp l S b Lx xs dC dI cA 228 171 (s_bin g_iadd) := ok_iadd (by decide +kernel) rfl
theorem o228_172 : OKp l S b Lx xs dC dI cA 228 172 (s_sld) := ok_sld (fun s h => h rfl) (by decide +kernel) rfl
theorem o228_173 : OKp l S b Lx xs dC dI cA 228 173 (s_invV (dv1 12 177 3) [] 2) := ok_invV (dv1_ok vc_RL_47_12 rfl (by decide) (hXX 177 (by decide))) (by decide +kernel) rfl
theorem o228_174 : OKp l S b Lx xs dC dI cA 228 174 (s_icmp (fun x y => x = y) 1007) := ok_icmp_eq (off := 1144) (by decide +kernel) (by decide +kernel) rfl
theorem o228_175 : OKp l S b Lx xs dC dI cA 228 175 (s_const (0)) := ok_iconst (n := 0) (by decide +kernel) (by decide) rfl
theorem o228_176 : OKp l S b Lx xs dC dI cA 228 176 (s_zret) := ok_zret (by decide +kernel) rfl
theorem o228_177 : OKp l S b Lx xs dC dI cA 228 177 (s_aload 1) := ok_aload_n (k9 := 1) (by decide +kernel) rfl rfl
theorem o228_178 : OKp l S b Lx xs dC dI cA 228 178 (s_aload 0) := ok_aload_n (k9 := 0) (by decide +kernel) rfl rfl
theorem o228_179 : OKp l S b Lx xs dC dI cA 228 179 (s_iload 4) := ok_iload (by decide +kernel) rfl
theorem o228_180 : OKp l S b Lx xs dC dI cA 228 180 (s_const (1)) := ok_iconst (n := 1) (by decide +kernel) (by decide) rfl
theorem o228_181 : OKp l S b Lx xs dC dI cA 228 181 (s_bin g_iadd) := ok_iadd (by decide +kernel) rfl
theorem o228_182 : OKp l S b Lx xs dC dI cA 228 182 (s_sld) := ok_sld (fun s h => h rfl) (by decide +kernel) rfl
theorem o228_183 : OKp l S b Lx xs dC dI cA 228 183 (s_aload 0) := ok_aload_n (k9 := 0) (by decide +kernel) rfl rfl
theorem o228_184 : OKp l S b Lx xs dC dI cA 228 184 (s_iload 4) := ok_iload (by decide +kernel) rfl
theorem o228_185 : OKp l S b Lx xs dC dI cA 228 185 (s_const (2)) := ok_iconst (n := 2) (by decide +kernel) (by decide) rfl
theorem o228_186 : OKp l S b Lx xs dC dI cA 228 186 (s_bin g_iadd) := ok_iadd (by decide +kernel) rfl
theorem o228_187 : OKp l S b Lx xs dC dI cA 228 187 (s_sld) := ok_sld (fun s h => h rfl) (by decide +kernel) rfl
theorem o228_188 : OKp l S b Lx xs dC dI cA 228 188 (s_invV (dv1 11 84 5) [] 2) := ok_invV (dv1_ok vc_RL_48_11 rfl (by decide) (hXX 84 (by decide))) (by decide +kernel) rfl
theorem o228_189 : OKp l S b Lx xs dC dI cA 228 189 (s_aload 2) := ok_aload_n (k9 := 2) (by decide +kernel) rfl rfl
theorem o228_190 : OKp l S b Lx xs dC dI cA 228 190 (s_aload 0) := ok_aload_n (k9 := 0) (by decide +kernel) rfl rfl
theorem o228_191 : OKp l S b Lx xs dC dI cA 228 191 (s_iload 4) := ok_iload (by decide +kernel) rfl
theorem o228_192 : OKp l S b Lx xs dC dI cA 228 192 (s_const (1)) := ok_iconst (n := 1) (by decide +kernel) (by decide) rfl
theorem o228_193 : OKp l S b Lx xs dC dI cA 228 193 (s_bin g_iadd) := ok_iadd (by decide +kernel) rfl
theorem o228_194 : OKp l S b Lx xs dC dI cA 228 194 (s_sld) := ok_sld (fun s h => h rfl) (by decide +kernel) rfl
theorem o228_195 : OKp l S b Lx xs dC dI cA 228 195 (s_aload 0) := ok_aload_n (k9 := 0) (by decide +kernel) rfl rfl
theorem o228_196 : OKp l S b Lx xs dC dI cA 228 196 (s_iload 4) := ok_iload (by decide +kernel) rfl
theorem o228_197 : OKp l S b Lx xs dC dI cA 228 197 (s_const (2)) := ok_iconst (n := 2) (by decide +kernel) (by decide) rfl
theorem o228_198 : OKp l S b Lx xs dC dI cA 228 198 (s_bin g_iadd) := ok_iadd (by decide +kernel) rfl
theorem o228_199 : OKp l S b Lx xs dC dI cA 228 199 (s_sld) := ok_sld (fun s h => h rfl) (by decide +kernel) rfl
theorem o228_200 : OKp l S b Lx xs dC dI cA 228 200 (s_invV (dv1 12 178 3) [] 2) := ok_invV (dv1_ok vc_RL_51_12 rfl (by decide) (hXX 178 (by decide))) (by decide +kernel) rfl
theorem o228_201 : OKp l S b Lx xs dC dI cA 228 201 (s_icmp (fun x y => x = y) 1007) := ok_icmp_eq (off := 1107) (by decide +kernel) (by decide +kernel) rfl
theorem o228_202 : OKp l S b Lx xs dC dI cA 228 202 (s_const (0)) := ok_iconst (n := 0) (by decide +kernel) (by decide) rfl
theorem o228_203 : OKp l S b Lx xs dC dI cA 228 203 (s_zret) := ok_zret (by decide +kernel) rfl
theorem o228_204 : OKp l S b Lx xs dC dI cA 228 204 (s_aload 1) := ok_aload_n (k9 := 1) (by decide +kernel) rfl rfl
theorem o228_205 : OKp l S b Lx xs dC dI cA 228 205 (s_aload 0) := ok_aload_n (k9 := 0) (by decide +kernel) rfl rfl
theorem o228_206 : OKp l S b Lx xs dC dI cA 228 206 (s_iload 4) := ok_iload (by decide +kernel) rfl
theorem o228_207 : OKp l S b Lx xs dC dI cA 228 207 (s_const (1)) := ok_iconst (n := 1) (by decide +kernel) (by decide) rfl
theorem o228_208 : OKp l S b Lx xs dC dI cA 228 208 (s_bin g_iadd) := ok_iadd (by decide +kernel) rfl
theorem o228_209 : OKp l S b Lx xs dC dI cA 228 209 (s_sld) := ok_sld (fun s h => h rfl) (by decide +kernel) rfl
theorem o228_210 : OKp l S b Lx xs dC dI cA 228 210 (s_aload 0) := ok_aload_n (k9 := 0) (by decide +kernel) rfl rfl
theorem o228_211 : OKp l S b Lx xs dC dI cA 228 211 (s_iload 4) := ok_iload (by decide +kernel) rfl
theorem o228_212 : OKp l S b Lx xs dC dI cA 228 212 (s_const (2)) := ok_iconst (n := 2) (by decide +kernel) (by decide) rfl
theorem o228_213 : OKp l S b Lx xs dC dI cA 228 213 (s_bin g_iadd) := ok_iadd (by decide +kernel) rfl
theorem o228_214 : OKp l S b Lx xs dC dI cA 228 214 (s_sld) := ok_sld (fun s h => h rfl) (by decide +kernel) rfl
theorem o228_215 : OKp l S b Lx xs dC dI cA 228 215 (s_invV (dv1 11 85 3) [] 2) := ok_invV (dv1_ok vc_RL_52_11 rfl (by decide) (hXX 85 (by decide))) (by decide +kernel) rfl
theorem o228_216 : OKp l S b Lx xs dC dI cA 228 216 (s_aload 2) := ok_aload_n (k9 := 2) (by decide +kernel) rfl rfl
theorem o228_217 : OKp l S b Lx xs dC dI cA 228 217 (s_aload 0) := ok_aload_n (k9 := 0) (by decide +kernel) rfl rfl
theorem o228_218 : OKp l S b Lx xs dC dI cA 228 218 (s_iload 4) := ok_iload (by decide +kernel) rfl
theorem o228_219 : OKp l S b Lx xs dC dI cA 228 219 (s_const (1)) := ok_iconst (n := 1) (by decide +kernel) (by decide) rfl
theorem o228_220 : OKp l S b Lx xs dC dI cA 228 220 (s_bin g_iadd) := ok_iadd (by decide +kernel) rfl
theorem o228_221 : OKp l S b Lx xs dC dI cA 228 221 (s_sld) := ok_sld (fun s h => h rfl) (by decide +kernel) rfl
theorem o228_222 : OKp l S b Lx xs dC dI cA 228 222 (s_aload 0) := ok_aload_n (k9 := 0) (by decide +kernel) rfl rfl
theorem o228_223 : OKp l S b Lx xs dC dI cA 228 223 (s_iload 4) := ok_iload (by decide +kernel) rfl
theorem o228_224 : OKp l S b Lx xs dC dI cA 228 224 (s_const (2)) := ok_iconst (n := 2) (by decide +kernel) (by decide) rfl
theorem o228_225 : OKp l S b Lx xs dC dI cA 228 225 (s_bin g_iadd) := ok_iadd (by decide +kernel) rfl
theorem o228_226 : OKp l S b Lx xs dC dI cA 228 226 (s_sld) := ok_sld (fun s h => h rfl) (by decide +kernel) rfl
theorem o228_227 : OKp l S b Lx xs dC dI cA 228 227 (s_invV (dv1 12 179 3) [] 2) := ok_invV (dv1_ok vc_RL_55_12 rfl (by decide) (hXX 179 (by decide))) (by decide +kernel) rfl
theorem o228_228 : OKp l S b Lx xs dC dI cA 228 228 (s_icmp (fun x y => x = y) 1007) := ok_icmp_eq (off := 1070) (by decide +kernel) (by decide +kernel) rfl
theorem o228_229 : OKp l S b Lx xs dC dI cA 228 229 (s_const (0)) := ok_iconst (n := 0) (by decide +kernel) (by decide) rfl
theorem o228_230 : OKp l S b Lx xs dC dI cA 228 230 (s_zret) := ok_zret (by decide +kernel) rfl
theorem o228_231 : OKp l S b Lx xs dC dI cA 228 231 (s_aload 1) := ok_aload_n (k9 := 1) (by decide +kernel) rfl rfl
theorem o228_232 : OKp l S b Lx xs dC dI cA 228 232 (s_aload 0) := ok_aload_n (k9 := 0) (by decide +kernel) rfl rfl
theorem o228_233 : OKp l S b Lx xs dC dI cA 228 233 (s_iload 4) := ok_iload (by decide +kernel) rfl
theorem o228_234 : OKp l S b Lx xs dC dI cA 228 234 (s_const (1)) := ok_iconst (n := 1) (by decide +kernel) (by decide) rfl
theorem o228_235 : OKp l S b Lx xs dC dI cA 228 235 (s_bin g_iadd) := ok_iadd (by decide +kernel) rfl
theorem o228_236 : OKp l S b Lx xs dC dI cA 228 236 (s_sld) := ok_sld (fun s h => h rfl) (by decide +kernel) rfl
theorem o228_237 : OKp l S b Lx xs dC dI cA 228 237 (s_invV (dv1 11 86 2) [] 1) := ok_invV (dv1_ok vc_RL_56_11 rfl (by decide) (hXX 86 (by decide))) (by decide +kernel) rfl
theorem o228_238 : OKp l S b Lx xs dC dI cA 228 238 (s_aload 2) := ok_aload_n (k9 := 2) (by decide +kernel) rfl rfl
theorem o228_239 : OKp l S b Lx xs dC dI cA 228 239 (s_aload 0) := ok_aload_n (k9 := 0) (by decide +kernel) rfl rfl
theorem o228_240 : OKp l S b Lx xs dC dI cA 228 240 (s_iload 4) := ok_iload (by decide +kernel) rfl
theorem o228_241 : OKp l S b Lx xs dC dI cA 228 241 (s_const (1)) := ok_iconst (n := 1) (by decide +kernel) (by decide) rfl
theorem o228_242 : OKp l S b Lx xs dC dI cA 228 242 (s_bin g_iadd) := ok_iadd (by decide +kernel) rfl
theorem o228_243 : OKp l S b Lx xs dC dI cA 228 243 (s_sld) := ok_sld (fun s h => h rfl) (by decide +kernel) rfl
theorem o228_244 : OKp l S b Lx xs dC dI cA 228 244 (s_invV (dv1 12 180 4) [] 1) := ok_invV (dv1_ok vc_RL_59_12 rfl (by decide) (hXX 180 (by decide))) (by decide +kernel) rfl
theorem o228_245 : OKp l S b Lx xs dC dI cA 228 245 (s_icmp (fun x y => x = y) 1007) := ok_icmp_eq (off := 1045) (by decide +kernel) (by decide +kernel) rfl
theorem o228_246 : OKp l S b Lx xs dC dI cA 228 246 (s_const (0)) := ok_iconst (n := 0) (by decide +kernel) (by decide) rfl
theorem o228_247 : OKp l S b Lx xs dC dI cA 228 247 (s_zret) := ok_zret (by decide +kernel) rfl
theorem o228_248 : OKp l S b Lx xs dC dI cA 228 248 (s_aload 1) := ok_aload_n (k9 := 1) (by decide +kernel) rfl rfl
theorem o228_249 : OKp l S b Lx xs dC dI cA 228 249 (s_aload 0) := ok_aload_n (k9 := 0) (by decide +kernel) rfl rfl
theorem o228_250 : OKp l S b Lx xs dC dI cA 228 250 (s_iload 4) := ok_iload (by decide +kernel) rfl
theorem o228_251 : OKp l S b Lx xs dC dI cA 228 251 (s_const (1)) := ok_iconst (n := 1) (by decide +kernel) (by decide) rfl
theorem o228_252 : OKp l S b Lx xs dC dI cA 228 252 (s_bin g_iadd) := ok_iadd (by decide +kernel) rfl
theorem o228_253 : OKp l S b Lx xs dC dI cA 228 253 (s_sld) := ok_sld (fun s h => h rfl) (by decide +kernel) rfl
theorem o228_254 : OKp l S b Lx xs dC dI cA 228 254 (s_aload 0) := ok_aload_n (k9 := 0) (by decide +kernel) rfl rfl
theorem o228_255 : OKp l S b Lx xs dC dI cA 228 255 (s_iload 4) := ok_iload (by decide +kernel) rfl
theorem o228_256 : OKp l S b Lx xs dC dI cA 228 256 (s_const (2)) := ok_iconst (n := 2) (by decide +kernel) (by decide) rfl
theorem o228_257 : OKp l S b Lx xs dC dI cA 228 257 (s_bin g_iadd) := ok_iadd (by decide +kernel) rfl
theorem o228_258 : OKp l S b Lx xs dC dI cA 228 258 (s_sld) := ok_sld (fun s h => h rfl) (by decide +kernel) rfl
theorem o228_259 : OKp l S b Lx xs dC dI cA 228 259 (s_invV (dv1 11 87 6) [] 2) := ok_invV (dv1_ok vc_RL_60_11 rfl (by decide) (hXX 87 (by decide))) (by decide +kernel) rfl
theorem o228_260 : OKp l S b Lx xs dC dI cA 228 260 (s_aload 2) := ok_aload_n (k9 := 2) (by decide +kernel) rfl rfl
theorem o228_261 : OKp l S b Lx xs dC dI cA 228 261 (s_aload 0) := ok_aload_n (k9 := 0) (by decide +kernel) rfl rfl
theorem o228_262 : OKp l S b Lx xs dC dI cA 228 262 (s_iload 4) := ok_iload (by decide +kernel) rfl
theorem o228_263 : OKp l S b Lx xs dC dI cA 228 263 (s_const (1)) := ok_iconst (n := 1) (by decide +kernel) (by decide) rfl
theorem o228_264 : OKp l S b Lx xs dC dI cA 228 264 (s_bin g_iadd) := ok_iadd (by decide +kernel) rfl
theorem o228_265 : OKp l S b Lx xs dC dI cA 228 265 (s_sld) := ok_sld (fun s h => h rfl) (by decide +kernel) rfl
theorem o228_266 : OKp l S b Lx xs dC dI cA 228 266 (s_aload 0) := ok_aload_n (k9 := 0) (by decide +kernel) rfl rfl
theorem o228_267 : OKp l S b Lx xs dC dI cA 228 267 (s_iload 4) := ok_iload (by decide +kernel) rfl
theorem o228_268 : OKp l S b Lx xs dC dI cA 228 268 (s_const (2)) := ok_iconst (n := 2) (by decide +kernel) (by decide) rfl
theorem o228_269 : OKp l S b Lx xs dC dI cA 228 269 (s_bin g_iadd) := ok_iadd (by decide +kernel) rfl
theorem o228_270 : OKp l S b Lx xs dC dI cA 228 270 (s_sld) := ok_sld (fun s h => h rfl) (by decide +kernel) rfl
theorem o228_271 : OKp l S b Lx xs dC dI cA 228 271 (s_invV (dv1 12 188 6) [] 2) := ok_invV (dv1_ok vc_RL_63_12 rfl (by decide) (hXX 188 (by decide))) (by decide +kernel) rfl
theorem o228_272 : OKp l S b Lx xs dC dI cA 228 272 (s_icmp (fun x y => x = y) 1007) := ok_icmp_eq (off := 1008) (by decide +kernel) (by decide +kernel) rfl
theorem o228_273 : OKp l S b Lx xs dC dI cA 228 273 (s_const (0)) := ok_iconst (n := 0) (by decide +kernel) (by decide) rfl
theorem o228_274 : OKp l S b Lx xs dC dI cA 228 274 (s_zret) := ok_zret (by decide +kernel) rfl
theorem o228_275 : OKp l S b Lx xs dC dI cA 228 275 (s_aload 1) := ok_aload_n (k9 := 1) (by decide +kernel) rfl rfl
theorem o228_276 : OKp l S b Lx xs dC dI cA 228 276 (s_aload 0) := ok_aload_n (k9 := 0) (by decide +kernel) rfl rfl
theorem o228_277 : OKp l S b Lx xs dC dI cA 228 277 (s_iload 4) := ok_iload (by decide +kernel) rfl
theorem o228_278 : OKp l S b Lx xs dC dI cA 228 278 (s_const (1)) := ok_iconst (n := 1) (by decide +kernel) (by decide) rfl
theorem o228_279 : OKp l S b Lx xs dC dI cA 228 279 (s_bin g_iadd) := ok_iadd (by decide +kernel) rfl
theorem o228_280 : OKp l S b Lx xs dC dI cA 228 280 (s_sld) := ok_sld (fun s h => h rfl) (by decide +kernel) rfl
theorem o228_281 : OKp l S b Lx xs dC dI cA 228 281 (s_aload 0) := ok_aload_n (k9 := 0) (by decide +kernel) rfl rfl
theorem o228_282 : OKp l S b Lx xs dC dI cA 228 282 (s_iload 4) := ok_iload (by decide +kernel) rfl
theorem o228_283 : OKp l S b Lx xs dC dI cA 228 283 (s_const (2)) := ok_iconst (n := 2) (by decide +kernel) (by decide) rfl
theorem o228_284 : OKp l S b Lx xs dC dI cA 228 284 (s_bin g_iadd) := ok_iadd (by decide +kernel) rfl
theorem o228_285 : OKp l S b Lx xs dC dI cA 228 285 (s_sld) := ok_sld (fun s h => h rfl) (by decide +kernel) rfl
theorem o228_286 : OKp l S b Lx xs dC dI cA 228 286 (s_aload 0) := ok_aload_n (k9 := 0) (by decide +kernel) rfl rfl
theorem o228_287 : OKp l S b Lx xs dC dI cA 228 287 (s_iload 4) := ok_iload (by decide +kernel) rfl
theorem o228_288 : OKp l S b Lx xs dC dI cA 228 288 (s_const (3)) := ok_iconst (n := 3) (by decide +kernel) (by decide) rfl
theorem o228_289 : OKp l S b Lx xs dC dI cA 228 289 (s_bin g_iadd) := ok_iadd (by decide +kernel) rfl
theorem o228_290 : OKp l S b Lx xs dC dI cA 228 290 (s_sld) := ok_sld (fun s h => h rfl) (by decide +kernel) rfl
theorem o228_291 : OKp l S b Lx xs dC dI cA 228 291 (s_invV (dv1 11 88 7) [] 3) := ok_invV (dv1_ok vc_RL_64_11 rfl (by decide) (hXX 88 (by decide))) (by decide +kernel) rfl
theorem o228_292 : OKp l S b Lx xs dC dI cA 228 292 (s_aload 2) := ok_aload_n (k9 := 2) (by decide +kernel) rfl rfl
theorem o228_293 : OKp l S b Lx xs dC dI cA 228 293 (s_aload 0) := ok_aload_n (k9 := 0) (by decide +kernel) rfl rfl
theorem o228_294 : OKp l S b Lx xs dC dI cA 228 294 (s_iload 4) := ok_iload (by decide +kernel) rfl
theorem o228_295 : OKp l S b Lx xs dC dI cA 228 295 (s_const (1)) := ok_iconst (n := 1) (by decide +kernel) (by decide) rfl
theorem o228_296 : OKp l S b Lx xs dC dI cA 228 296 (s_bin g_iadd) := ok_iadd (by decide +kernel) rfl
theorem o228_297 : OKp l S b Lx xs dC dI cA 228 297 (s_sld) := ok_sld (fun s h => h rfl) (by decide +kernel) rfl
theorem o228_298 : OKp l S b Lx xs dC dI cA 228 298 (s_aload 0) := ok_aload_n (k9 := 0) (by decide +kernel) rfl rfl
theorem o228_299 : OKp l S b Lx xs dC dI cA 228 299 (s_iload 4) := ok_iload (by decide +kernel) rfl
theorem o228_300 : OKp l S b Lx xs dC dI cA 228 300 (s_const (2)) := ok_iconst (n := 2) (by decide +kernel) (by decide) rfl
theorem o228_301 : OKp l S b Lx xs dC dI cA 228 301 (s_bin g_iadd) := ok_iadd (by decide +kernel) (by decide +kernel)
theorem o228_302 : OKp l S b Lx xs dC dI cA 228 302 (s_sld) := ok_sld (fun s h => h rfl) (by decide +kernel) (by decide +kernel)
theorem o228_303 : OKp l S b Lx xs dC dI cA 228 303 (s_aload 0) := ok_aload_n (k9 := 0) (by decide +kernel) rfl (by decide +kernel)
theorem o228_304 : OKp l S b Lx xs dC dI cA 228 304 (s_iload 4) := ok_iload (by decide +kernel) (by decide +kernel)
theorem o228_305 : OKp l S b Lx xs dC dI cA 228 305 (s_const (3)) := ok_iconst (n := 3) (by decide +kernel) (by decide) (by decide +kernel)
theorem o228_306 : OKp l S b Lx xs dC dI cA 228 306 (s_bin g_iadd) := ok_iadd (by decide +kernel) (by decide +kernel)
theorem o228_307 : OKp l S b Lx xs dC dI cA 228 307 (s_sld) := ok_sld (fun s h => h rfl) (by decide +kernel) (by decide +kernel)
theorem o228_308 : OKp l S b Lx xs dC dI cA 228 308 (s_invV (dv1 12 191 5) [] 3) := ok_invV (dv1_ok vc_RL_67_12 rfl (by decide) (hXX 191 (by decide))) (by decide +kernel) (by decide +kernel)
theorem o228_309 : OKp l S b Lx xs dC dI cA 228 309 (s_icmp (fun x y => x = y) 1007) := ok_icmp_eq (off := 959) (by decide +kernel) (by decide +kernel) (by decide +kernel)
theorem o228_310 : OKp l S b Lx xs dC dI cA 228 310 (s_const (0)) := ok_iconst (n := 0) (by decide +kernel) (by decide) (by decide +kernel)
theorem o228_311 : OKp l S b Lx xs dC dI cA 228 311 (s_zret) := ok_zret (by decide +kernel) rfl
theorem o228_312 : OKp l S b Lx xs dC dI cA 228 312 (s_aload 1) := ok_aload_n (k9 := 1) (by decide +kernel) rfl (by decide +kernel)
theorem o228_313 : OKp l S b Lx xs dC dI cA 228 313 (s_aload 0) := ok_aload_n (k9 := 0) (by decide +kernel) rfl (by decide +kernel)
theorem o228_314 : OKp l S b Lx xs dC dI cA 228 314 (s_iload 4) := ok_iload (by decide +kernel) (by decide +kernel)
theorem o228_315 : OKp l S b Lx xs dC dI cA 228 315 (s_const (1)) := ok_iconst (n := 1) (by decide +kernel) (by decide) (by decide +kernel)
theorem o228_316 : OKp l S b Lx xs dC dI cA 228 316 (s_bin g_iadd) := ok_iadd (by decide +kernel) (by decide +kernel)
theorem o228_317 : OKp l S b Lx xs dC dI cA 228 317 (s_sld) := ok_sld (fun s h => h rfl) (by decide +kernel) (by decide +kernel)
theorem o228_318 : OKp l S b Lx xs dC dI cA 228 318 (s_aload 0) := ok_aload_n (k9 := 0) (by decide +kernel) rfl (by decide +kernel)
theorem o228_319 : OKp l S b Lx xs dC dI cA 228 319 (s_iload 4) := ok_iload (by decide +kernel) (by decide +kernel)
theorem o228_320 : OKp l S b Lx xs dC dI cA 228 320 (s_const (2)) := ok_iconst (n := 2) (by decide +kernel) (by decide) (by decide +kernel)
theorem o228_321 : OKp l S b Lx xs dC dI cA 228 321 (s_bin g_iadd) := ok_iadd (by decide +kernel) (by decide +kernel)
theorem o228_322 : OKp l S b Lx xs dC dI cA 228 322 (s_sld) := ok_sld (fun s h => h rfl) (by decide +kernel) (by decide +kernel)
theorem o228_323 : OKp l S b Lx xs dC dI cA 228 323 (s_aload 0) := ok_aload_n (k9 := 0) (by decide +kernel) rfl (by decide +kernel)
theorem o228_324 : OKp l S b Lx xs dC dI cA 228 324 (s_iload 4) := ok_iload (by decide +kernel) (by decide +kernel)
theorem o228_325 : OKp l S b Lx xs dC dI cA 228 325 (s_const (3)) := ok_iconst (n := 3) (by decide +kernel) (by decide) (by decide +kernel)
theorem o228_326 : OKp l S b Lx xs dC dI cA 228 326 (s_bin g_iadd) := ok_iadd (by decide +kernel) (by decide +kernel)
theorem o228_327 : OKp l S b Lx xs dC dI cA 228 327 (s_sld) := ok_sld (fun s h => h rfl) (by decide +kernel) (by decide +kernel)
theorem o228_328 : OKp l S b Lx xs dC dI cA 228 328 (s_invV (dv1 11 89 11) [] 3) := ok_invV (dv1_ok vc_RL_68_11 rfl (by decide) (hXX 89 (by decide))) (by decide +kernel) (by decide +kernel)
theorem o228_329 : OKp l S b Lx xs dC dI cA 228 329 (s_aload 2) := ok_aload_n (k9 := 2) (by decide +kernel) rfl (by decide +kernel)
theorem o228_330 : OKp l S b Lx xs dC dI cA 228 330 (s_aload 0) := ok_aload_n (k9 := 0) (by decide +kernel) rfl (by decide +kernel)
theorem o228_331 : OKp l S b Lx xs dC dI cA 228 331 (s_iload 4) := ok_iload (by decide +kernel) (by decide +kernel)
theorem o228_332 : OKp l S b Lx xs dC dI cA 228 332 (s_const (1)) := ok_iconst (n := 1) (by decide +kernel) (by decide) (by decide +kernel)
theorem o228_333 : OKp l S b Lx xs dC dI cA 228 333 (s_bin g_iadd) := ok_iadd (by decide +kernel) (by decide +kernel)
theorem o228_334 : OKp l S b Lx xs dC dI cA 228 334 (s_sld) := ok_sld (fun s h => h rfl) (by decide +kernel) (by decide +kernel)
theorem o228_335 : OKp l S b Lx xs dC dI cA 228 335 (s_aload 0) := ok_aload_n (k9 := 0) (by decide +kernel) rfl (by decide +kernel)
theorem o228_336 : OKp l S b Lx xs dC dI cA 228 336 (s_iload 4) := ok_iload (by decide +kernel) (by decide +kernel)
theorem o228_337 : OKp l S b Lx xs dC dI cA 228 337 (s_const (2)) := ok_iconst (n := 2) (by decide +kernel) (by decide) (by decide +kernel)
theorem o228_338 : OKp l S b Lx xs dC dI cA 228 338 (s_bin g_iadd) := ok_iadd (by decide +kernel) (by decide +kernel)
theorem o228_339 : OKp l S b Lx xs dC dI cA 228 339 (s_sld) := ok_sld (fun s h => h rfl) (by decide +kernel) (by decide +kernel)
theorem o228_340 : OKp l S b Lx xs dC dI cA 228 340 (s_aload 0) := ok_aload_n (k9 := 0) (by decide +kernel) rfl (by decide +kernel)
theorem o228_341 : OKp l S b Lx xs dC dI cA 228 341 (s_iload 4) := ok_iload (by decide +kernel) (by decide +kernel)
theorem o228_342 : OKp l S b Lx xs dC dI cA 228 342 (s_const (3)) := ok_iconst (n := 3) (by decide +kernel) (by decide) (by decide +kernel)
theorem o228_343 : OKp l S b Lx xs dC dI cA 228 343 (s_bin g_iadd) := ok_iadd (by decide +kernel) (by decide +kernel)
theorem o228_344 : OKp l S b Lx xs dC dI cA 228 344 (s_sld) := ok_sld (fun s h => h rfl) (by decide +kernel) (by decide +kernel)
theorem o228_345 : OKp l S b Lx xs dC dI cA 228 345 (s_invV (dv1 12 193 9) [] 3) := ok_invV (dv1_ok vc_RL_71_12 rfl (by decide) (hXX 193 (by decide))) (by decide +kernel) (by decide +kernel)
theorem o228_346 : OKp l S b Lx xs dC dI cA 228 346 (s_icmp (fun x y => x = y) 1007) := ok_icmp_eq (off := 910) (by decide +kernel) (by decide +kernel) (by decide +kernel)
theorem o228_347 : OKp l S b Lx xs dC dI cA 228 347 (s_const (0)) := ok_iconst (n := 0) (by decide +kernel) (by decide) (by decide +kernel)
theorem o228_348 : OKp l S b Lx xs dC dI cA 228 348 (s_zret) := ok_zret (by decide +kernel) rfl
theorem o228_349 : OKp l S b Lx xs dC dI cA 228 349 (s_aload 1) := ok_aload_n (k9 := 1) (by decide +kernel) rfl (by decide +kernel)
theorem o228_350 : OKp l S b Lx xs dC dI cA 228 350 (s_aload 0) := ok_aload_n (k9 := 0) (by decide +kernel) rfl (by decide +kernel)
theorem o228_351 : OKp l S b Lx xs dC dI cA 228 351 (s_iload 4) := ok_iload (by decide +kernel) (by decide +kernel)
theorem o228_352 : OKp l S b Lx xs dC dI cA 228 352 (s_const (1)) := ok_iconst (n := 1) (by decide +kernel) (by decide) (by decide +kernel)
theorem o228_353 : OKp l S b Lx xs dC dI cA 228 353 (s_bin g_iadd) := ok_iadd (by decide +kernel) (by decide +kernel)
theorem o228_354 : OKp l S b Lx xs dC dI cA 228 354 (s_sld) := ok_sld (fun s h => h rfl) (by decide +kernel) (by decide +kernel)
theorem o228_355 : OKp l S b Lx xs dC dI cA 228 355 (s_aload 0) := ok_aload_n (k9 := 0) (by decide +kernel) rfl (by decide +kernel)
theorem o228_356 : OKp l S b Lx xs dC dI cA 228 356 (s_iload 4) := ok_iload (by decide +kernel) (by decide +kernel)
theorem o228_357 : OKp l S b Lx xs dC dI cA 228 357 (s_const (2)) := ok_iconst (n := 2) (by decide +kernel) (by decide) (by decide +kernel)
theorem o228_358 : OKp l S b Lx xs dC dI cA 228 358 (s_bin g_iadd) := ok_iadd (by decide +kernel) (by decide +kernel)
theorem o228_359 : OKp l S b Lx xs dC dI cA 228 359 (s_sld) := ok_sld (fun s h => h rfl) (by decide +kernel) (by decide +kernel)
theorem o228_360 : OKp l S b Lx xs dC dI cA 228 360 (s_invV (dv1 11 90 5) [] 2) := ok_invV (dv1_ok vc_RL_72_11 rfl (by decide) (hXX 90 (by decide))) (by decide +kernel) (by decide +kernel)
theorem o228_361 : OKp l S b Lx xs dC dI cA 228 361 (s_aload 2) := ok_aload_n (k9 := 2) (by decide +kernel) rfl (by decide +kernel)
theorem o228_362 : OKp l S b Lx xs dC dI cA 228 362 (s_aload 0) := ok_aload_n (k9 := 0) (by decide +kernel) rfl (by decide +kernel)
theorem o228_363 : OKp l S b Lx xs dC dI cA 228 363 (s_iload 4) := ok_iload (by decide +kernel) (by decide +kernel)
theorem o228_364 : OKp l S b Lx xs dC dI cA 228 364 (s_const (1)) := ok_iconst (n := 1) (by decide +kernel) (by decide) (by decide +kernel)
theorem o228_365 : OKp l S b Lx xs dC dI cA 228 365 (s_bin g_iadd) := ok_iadd (by decide +kernel) (by decide +kernel)
theorem o228_366 : OKp l S b Lx xs dC dI cA 228 366 (s_sld) := ok_sld (fun s h => h rfl) (by decide +kernel) (by decide +kernel)
theorem o228_367 : OKp l S b Lx xs dC dI cA 228 367 (s_aload 0) := ok_aload_n (k9 := 0) (by decide +kernel) rfl (by decide +kernel)
theorem o228_368 : OKp l S b Lx xs dC dI cA 228 368 (s_iload 4) := ok_iload (by decide +kernel) (by decide +kernel)
theorem o228_369 : OKp l S b Lx xs dC dI cA 228 369 (s_const (2)) := ok_iconst (n := 2) (by decide +kernel) (by decide) (by decide +kernel)
theorem o228_370 : OKp l S b Lx xs dC dI cA 228 370 (s_bin g_iadd) := ok_iadd (by decide +kernel) (by decide +kernel)
theorem o228_371 : OKp l S b Lx xs dC dI cA 228 371 (s_sld) := ok_sld (fun s h => h rfl) (by decide +kernel) (by decide +kernel)
theorem o228_372 : OKp l S b Lx xs dC dI cA 228 372 (s_invV (dv1 12 194 4) [] 2) := ok_invV (dv1_ok vc_RL_75_12 rfl (by decide) (hXX 194 (by decide))) (by decide +kernel) (by decide +kernel)
theorem o228_373 : OKp l S b Lx xs dC dI cA 228 373 (s_icmp (fun x y => x = y) 1007) := ok_icmp_eq (off := 873) (by decide +kernel) (by decide +kernel) (by decide +kernel)
theorem o228_374 : OKp l S b Lx xs dC dI cA 228 374 (s_const (0)) := ok_iconst (n := 0) (by decide +kernel) (by decide) (by decide +kernel)
theorem o228_375 : OKp l S b Lx xs dC dI cA 228 375 (s_zret) := ok_zret (by decide +kernel) rfl
theorem o228_376 : OKp l S b Lx xs dC dI cA 228 376 (s_aload 1) := ok_aload_n (k9 := 1) (by decide +kernel) rfl (by decide +kernel)
theorem o228_377 : OKp l S b Lx xs dC dI cA 228 377 (s_aload 0) := ok_aload_n (k9 := 0) (by decide +kernel) rfl (by decide +kernel)
theorem o228_378 : OKp l S b Lx xs dC dI cA 228 378 (s_iload 4) := ok_iload (by decide +kernel) (by decide +kernel)
theorem o228_379 : OKp l S b Lx xs dC dI cA 228 379 (s_const (1)) := ok_iconst (n := 1) (by decide +kernel) (by decide) (by decide +kernel)
theorem o228_380 : OKp l S b Lx xs dC dI cA 228 380 (s_bin g_iadd) := ok_iadd (by decide +kernel) (by decide +kernel)
theorem o228_381 : OKp l S b Lx xs dC dI cA 228 381 (s_sld) := ok_sld (fun s h => h rfl) (by decide +kernel) (by decide +kernel)
theorem o228_382 : OKp l S b Lx xs dC dI cA 228 382 (s_aload 0) := ok_aload_n (k9 := 0) (by decide +kernel) rfl (by decide +kernel)
theorem o228_383 : OKp l S b Lx xs dC dI cA 228 383 (s_iload 4) := ok_iload (by decide +kernel) (by decide +kernel)
theorem o228_384 : OKp l S b Lx xs dC dI cA 228 384 (s_const (2)) := ok_iconst (n := 2) (by decide +kernel) (by decide) (by decide +kernel)
theorem o228_385 : OKp l S b Lx xs dC dI cA 228 385 (s_bin g_iadd) := ok_iadd (by decide +kernel) (by decide +kernel)
theorem o228_386 : OKp l S b Lx xs dC dI cA 228 386 (s_sld) := ok_sld (fun s h => h rfl) (by decide +kernel) (by decide +kernel)
theorem o228_387 : OKp l S b Lx xs dC dI cA 228 387 (s_aload 0) := ok_aload_n (k9 := 0) (by decide +kernel) rfl (by decide +kernel)
theorem o228_388 : OKp l S b Lx xs dC dI cA 228 388 (s_iload 4) := ok_iload (by decide +kernel) (by decide +kernel)
theorem o228_389 : OKp l S b Lx xs dC dI cA 228 389 (s_const (3)) := ok_iconst (n := 3) (by decide +kernel) (by decide) (by decide +kernel)
theorem o228_390 : OKp l S b Lx xs dC dI cA 228 390 (s_bin g_iadd) := ok_iadd (by decide +kernel) (by decide +kernel)
theorem o228_391 : OKp l S b Lx xs dC dI cA 228 391 (s_sld) := ok_sld (fun s h => h rfl) (by decide +kernel) (by decide +kernel)
theorem o228_392 : OKp l S b Lx xs dC dI cA 228 392 (s_invV (dv1 11 91 7) [] 3) := ok_invV (dv1_ok vc_RL_76_11 rfl (by decide) (hXX 91 (by decide))) (by decide +kernel) (by decide +kernel)
theorem o228_393 : OKp l S b Lx xs dC dI cA 228 393 (s_aload 2) := ok_aload_n (k9 := 2) (by decide +kernel) rfl (by decide +kernel)
theorem o228_394 : OKp l S b Lx xs dC dI cA 228 394 (s_aload 0) := ok_aload_n (k9 := 0) (by decide +kernel) rfl (by decide +kernel)
theorem o228_395 : OKp l S b Lx xs dC dI cA 228 395 (s_iload 4) := ok_iload (by decide +kernel) (by decide +kernel)
theorem o228_396 : OKp l S b Lx xs dC dI cA 228 396 (s_const (1)) := ok_iconst (n := 1) (by decide +kernel) (by decide) (by decide +kernel)
theorem o228_397 : OKp l S b Lx xs dC dI cA 228 397 (s_bin g_iadd) := ok_iadd (by decide +kernel) (by decide +kernel)
theorem o228_398 : OKp l S b Lx xs dC dI cA 228 398 (s_sld) := ok_sld (fun s h => h rfl) (by decide +kernel) (by decide +kernel)
theorem o228_399 : OKp l S b Lx xs dC dI cA 228 399 (s_aload 0) := ok_aload_n (k9 := 0) (by decide +kernel) rfl (by decide +kernel)
theorem o228_400 : OKp l S b Lx xs dC dI cA 228 400 (s_iload 4) := ok_iload (by decide +kernel) (by decide +kernel)
theorem o228_401 : OKp l S b Lx xs dC dI cA 228 401 (s_const (2)) := ok_iconst (n := 2) (by decide +kernel) (by decide) (by decide +kernel)
theorem o228_402 : OKp l S b Lx xs dC dI cA 228 402 (s_bin g_iadd) := ok_iadd (by decide +kernel) (by decide +kernel)
theorem o228_403 : OKp l S b Lx xs dC dI cA 228 403 (s_sld) := ok_sld (fun s h => h rfl) (by decide +kernel) (by decide +kernel)
theorem o228_404 : OKp l S b Lx xs dC dI cA 228 404 (s_aload 0) := ok_aload_n (k9 := 0) (by decide +kernel) rfl (by decide +kernel)
theorem o228_405 : OKp l S b Lx xs dC dI cA 228 405 (s_iload 4) := ok_iload (by decide +kernel) (by decide +kernel)
theorem o228_406 : OKp l S b Lx xs dC dI cA 228 406 (s_const (3)) := ok_iconst (n := 3) (by decide +kernel) (by decide) (by decide +kernel)
theorem o228_407 : OKp l S b Lx xs dC dI cA 228 407 (s_bin g_iadd) := ok_iadd (by decide +kernel) (by decide +kernel)
theorem o228_408 : OKp l S b Lx xs dC dI cA 228 408 (s_sld) := ok_sld (fun s h => h rfl) (by decide +kernel) (by decide +kernel)
theorem o228_409 : OKp l S b Lx xs dC dI cA 228 409 (s_invV (dv1 12 196 6) [] 3) := ok_invV (dv1_ok vc_RL_79_12 rfl (by decide) (hXX 196 (by decide))) (by decide +kernel) (by decide +kernel)
theorem o228_410 : OKp l S b Lx xs dC dI cA 228 410 (s_icmp (fun x y => x = y) 1007) := ok_icmp_eq (off := 824) (by decide +kernel) (by decide +kernel) (by decide +kernel)
theorem o228_411 : OKp l S b Lx xs dC dI cA 228 411 (s_const (0)) := ok_iconst (n := 0) (by decide +kernel) (by decide) (by decide +kernel)
theorem o228_412 : OKp l S b Lx xs dC dI cA 228 412 (s_zret) := ok_zret (by decide +kernel) rfl
theorem o228_413 : OKp l S b Lx xs dC dI cA 228 413 (s_aload 1) := ok_aload_n (k9 := 1) (by decide +kernel) rfl (by decide +kernel)
theorem o228_414 : OKp l S b Lx xs dC dI cA 228 414 (s_aload 0) := ok_aload_n (k9 := 0) (by decide +kernel) rfl (by decide +kernel)
theorem o228_415 : OKp l S b Lx xs dC dI cA 228 415 (s_iload 4) := ok_iload (by decide +kernel) (by decide +kernel)
theorem o228_416 : OKp l S b Lx xs dC dI cA 228 416 (s_const (1)) := ok_iconst (n := 1) (by decide +kernel) (by decide) (by decide +kernel)
theorem o228_417 : OKp l S b Lx xs dC dI cA 228 417 (s_bin g_iadd) := ok_iadd (by decide +kernel) (by decide +kernel)
theorem o228_418 : OKp l S b Lx xs dC dI cA 228 418 (s_sld) := ok_sld (fun s h => h rfl) (by decide +kernel) (by decide +kernel)
theorem o228_419 : OKp l S b Lx xs dC dI cA 228 419 (s_aload 0) := ok_aload_n (k9 := 0) (by decide +kernel) rfl (by decide +kernel)
theorem o228_420 : OKp l S b Lx xs dC dI cA 228 420 (s_iload 4) := ok_iload (by decide +kernel) (by decide +kernel)
theorem o228_421 : OKp l S b Lx xs dC dI cA 228 421 (s_const (2)) := ok_iconst (n := 2) (by decide +kernel) (by decide) (by decide +kernel)
theorem o228_422 : OKp l S b Lx xs dC dI cA 228 422 (s_bin g_iadd) := ok_iadd (by decide +kernel) (by decide +kernel)
theorem o228_423 : OKp l S b Lx xs dC dI cA 228 423 (s_sld) := ok_sld (fun s h => h rfl) (by decide +kernel) (by decide +kernel)
theorem o228_424 : OKp l S b Lx xs dC dI cA 228 424 (s_invV (dv1 11 92 5) [] 2) := ok_invV (dv1_ok vc_RL_80_11 rfl (by decide) (hXX 92 (by decide))) (by decide +kernel) (by decide +kernel)
theorem o228_425 : OKp l S b Lx xs dC dI cA 228 425 (s_aload 2) := ok_aload_n (k9 := 2) (by decide +kernel) rfl (by decide +kernel)
theorem o228_426 : OKp l S b Lx xs dC dI cA 228 426 (s_aload 0) := ok_aload_n (k9 := 0) (by decide +kernel) rfl (by decide +kernel)
theorem o228_427 : OKp l S b Lx xs dC dI cA 228 427 (s_iload 4) := ok_iload (by decide +kernel) (by decide +kernel)
theorem o228_428 : OKp l S b Lx xs dC dI cA 228 428 (s_const (1)) := ok_iconst (n := 1) (by decide +kernel) (by decide) (by decide +kernel)
theorem o228_429 : OKp l S b Lx xs dC dI cA 228 429 (s_bin g_iadd) := ok_iadd (by decide +kernel) (by decide +kernel)
theorem o228_430 : OKp l S b Lx xs dC dI cA 228 430 (s_sld) := ok_sld (fun s h => h rfl) (by decide +kernel) (by decide +kernel)
theorem o228_431 : OKp l S b Lx xs dC dI cA 228 431 (s_aload 0) := ok_aload_n (k9 := 0) (by decide +kernel) rfl (by decide +kernel)
theorem o228_432 : OKp l S b Lx xs dC dI cA 228 432 (s_iload 4) := ok_iload (by decide +kernel) (by decide +kernel)
theorem o228_433 : OKp l S b Lx xs dC dI cA 228 433 (s_const (2)) := ok_iconst (n := 2) (by decide +kernel) (by decide) (by decide +kernel)
theorem o228_434 : OKp l S b Lx xs dC dI cA 228 434 (s_bin g_iadd) := ok_iadd (by decide +kernel) (by decide +kernel)
theorem o228_435 : OKp l S b Lx xs dC dI cA 228 435 (s_sld) := ok_sld (fun s h => h rfl) (by decide +kernel) (by decide +kernel)
theorem o228_436 : OKp l S b Lx xs dC dI cA 228 436 (s_invV (dv1 12 197 5) [] 2) := ok_invV (dv1_ok vc_RL_83_12 rfl (by decide) (hXX 197 (by decide))) (by decide +kernel) (by decide +kernel)
theorem o228_437 : OKp l S b Lx xs dC dI cA 228 437 (s_icmp (fun x y => x = y) 1007) := ok_icmp_eq (off := 787) (by decide +kernel) (by decide +kernel) (by decide +kernel)
theorem o228_438 : OKp l S b Lx xs dC dI cA 228 438 (s_const (0)) := ok_iconst (n := 0) (by decide +kernel) (by decide) (by decide +kernel)
theorem o228_439 : OKp l S b Lx xs dC dI cA 228 439 (s_zret) := ok_zret (by decide +kernel) rfl
theorem o228_440 : OKp l S b Lx xs dC dI cA 228 440 (s_aload 1) := ok_aload_n (k9 := 1) (by decide +kernel) rfl (by decide +kernel)
theorem o228_441 : OKp l S b Lx xs dC dI cA 228 441 (s_aload 0) := ok_aload_n (k9 := 0) (by decide +kernel) rfl (by decide +kernel)
theorem o228_442 : OKp l S b Lx xs dC dI cA 228 442 (s_iload 4) := ok_iload (by decide +kernel) (by decide +kernel)
theorem o228_443 : OKp l S b Lx xs dC dI cA 228 443 (s_const (1)) := ok_iconst (n := 1) (by decide +kernel) (by decide) (by decide +kernel)
theorem o228_444 : OKp l S b Lx xs dC dI cA 228 444 (s_bin g_iadd) := ok_iadd (by decide +kernel) (by decide +kernel)
theorem o228_445 : OKp l S b Lx xs dC dI cA 228 445 (s_sld) := ok_sld (fun s h => h rfl) (by decide +kernel) (by decide +kernel)
theorem o228_446 : OKp l S b Lx xs dC dI cA 228 446 (s_aload 0) := ok_aload_n (k9 := 0) (by decide +kernel) rfl (by decide +kernel)
theorem o228_447 : OKp l S b Lx xs dC dI cA 228 447 (s_iload 4) := ok_iload (by decide +kernel) (by decide +kernel)
theorem o228_448 : OKp l S b Lx xs dC dI cA 228 448 (s_const (2)) := ok_iconst (n := 2) (by decide +kernel) (by decide) (by decide +kernel)
theorem o228_449 : OKp l S b Lx xs dC dI cA 228 449 (s_bin g_iadd) := ok_iadd (by decide +kernel) (by decide +kernel)
theorem o228_450 : OKp l S b Lx xs dC dI cA 228 450 (s_sld) := ok_sld (fun s h => h rfl) (by decide +kernel) (by decide +kernel)
theorem o228_451 : OKp l S b Lx xs dC dI cA 228 451 (s_invV (dv1 11 93 4) [] 2) := ok_invV (dv1_ok vc_RL_84_11 rfl (by decide) (hXX 93 (by decide))) (by decide +kernel) (by decide +kernel)
theorem o228_452 : OKp l S b Lx xs dC dI cA 228 452 (s_aload 2) := ok_aload_n (k9 := 2) (by decide +kernel) rfl (by decide +kernel)
theorem o228_453 : OKp l S b Lx xs dC dI cA 228 453 (s_aload 0) := ok_aload_n (k9 := 0) (by decide +kernel) rfl (by decide +kernel)
theorem o228_454 : OKp l S b Lx xs dC dI cA 228 454 (s_iload 4) := ok_iload (by decide +kernel) (by decide +kernel)
theorem o228_455 : OKp l S b Lx xs dC dI cA 228 455 (s_const (1)) := ok_iconst (n := 1) (by decide +kernel) (by decide) (by decide +kernel)
theorem o228_456 : OKp l S b Lx xs dC dI cA 228 456 (s_bin g_iadd) := ok_iadd (by decide +kernel) (by decide +kernel)
theorem o228_457 : OKp l S b Lx xs dC dI cA 228 457 (s_sld) := ok_sld (fun s h => h rfl) (by decide +kernel) (by decide +kernel)
theorem o228_458 : OKp l S b Lx xs dC dI cA 228 458 (s_aload 0) := ok_aload_n (k9 := 0) (by decide +kernel) rfl (by decide +kernel)
theorem o228_459 : OKp l S b Lx xs dC dI cA 228 459 (s_iload 4) := ok_iload (by decide +kernel) (by decide +kernel)
theorem o228_460 : OKp l S b Lx xs dC dI cA 228 460 (s_const (2)) := ok_iconst (n := 2) (by decide +kernel) (by decide) (by decide +kernel)
theorem o228_461 : OKp l S b Lx xs dC dI cA 228 461 (s_bin g_iadd) := ok_iadd (by decide +kernel) (by decide +kernel)
theorem o228_462 : OKp l S b Lx xs dC dI cA 228 462 (s_sld) := ok_sld (fun s h => h rfl) (by decide +kernel) (by decide +kernel)
theorem o228_463 : OKp l S b Lx xs dC dI cA 228 463 (s_invV (dv1 12 198 3) [] 2) := ok_invV (dv1_ok vc_RL_87_12 rfl (by decide) (hXX 198 (by decide))) (by decide +kernel) (by decide +kernel)
theorem o228_464 : OKp l S b Lx xs dC dI cA 228 464 (s_icmp (fun x y => x = y) 1007) := ok_icmp_eq (off := 750) (by decide +kernel) (by decide +kernel) (by decide +kernel)
theorem o228_465 : OKp l S b Lx xs dC dI cA 228 465 (s_const (0)) := ok_iconst (n := 0) (by decide +kernel) (by decide) (by decide +kernel)
theorem o228_466 : OKp l S b Lx xs dC dI cA 228 466 (s_zret) := ok_zret (by decide +kernel) rfl
theorem o228_467 : OKp l S b Lx xs dC dI cA 228 467 (s_aload 1) := ok_aload_n (k9 := 1) (by decide +kernel) rfl (by decide +kernel)
theorem o228_468 : OKp l S b Lx xs dC dI cA 228 468 (s_aload 0) := ok_aload_n (k9 := 0) (by decide +kernel) rfl (by decide +kernel)
theorem o228_469 : OKp l S b Lx xs dC dI cA 228 469 (s_iload 4) := ok_iload (by decide +kernel) (by decide +kernel)
theorem o228_470 : OKp l S b Lx xs dC dI cA 228 470 (s_const (1)) := ok_iconst (n := 1) (by decide +kernel) (by decide) (by decide +kernel)
theorem o228_471 : OKp l S b Lx xs dC dI cA 228 471 (s_bin g_iadd) := ok_iadd (by decide +kernel) (by decide +kernel)
theorem o228_472 : OKp l S b Lx xs dC dI cA 228 472 (s_sld) := ok_sld (fun s h => h rfl) (by decide +kernel) (by decide +kernel)
theorem o228_473 : OKp l S b Lx xs dC dI cA 228 473 (s_invV (dv1 11 94 6) [] 1) := ok_invV (dv1_ok vc_RL_88_11 rfl (by decide) (hXX 94 (by decide))) (by decide +kernel) (by decide +kernel)
theorem o228_474 : OKp l S b Lx xs dC dI cA 228 474 (s_aload 2) := ok_aload_n (k9 := 2) (by decide +kernel) rfl (by decide +kernel)
theorem o228_475 : OKp l S b Lx xs dC dI cA 228 475 (s_aload 0) := ok_aload_n (k9 := 0) (by decide +kernel) rfl (by decide +kernel)
theorem o228_476 : OKp l S b Lx xs dC dI cA 228 476 (s_iload 4) := ok_iload (by decide +kernel) (by decide +kernel)
theorem o228_477 : OKp l S b Lx xs dC dI cA 228 477 (s_const (1)) := ok_iconst (n := 1) (by decide +kernel) (by decide) (by decide +kernel)
theorem o228_478 : OKp l S b Lx xs dC dI cA 228 478 (s_bin g_iadd) := ok_iadd (by decide +kernel) (by decide +kernel)
theorem o228_479 : OKp l S b Lx xs dC dI cA 228 479 (s_sld) := ok_sld (fun s h => h rfl) (by decide +kernel) (by decide +kernel)
theorem o228_480 : OKp l S b Lx xs dC dI cA 228 480 (s_invV (dv1 12 199 6) [] 1) := ok_invV (dv1_ok vc_RL_91_12 rfl (by decide) (hXX 199 (by decide))) (by decide +kernel) (by decide +kernel)
theorem o228_481 : OKp l S b Lx xs dC dI cA 228 481 (s_icmp (fun x y => x = y) 1007) := ok_icmp_eq (off := 725) (by decide +kernel) (by decide +kernel) (by decide +kernel)
theorem o228_482 : OKp l S b Lx xs dC dI cA 228 482 (s_const (0)) := ok_iconst (n := 0) (by decide +kernel) (by decide) (by decide +kernel)
theorem o228_483 : OKp l S b Lx xs dC dI cA 228 483 (s_zret) := ok_zret (by decide +kernel) rfl
theorem o228_484 : OKp l S b Lx xs dC dI cA 228 484 (s_aload 1) := ok_aload_n (k9 := 1) (by decide +kernel) rfl (by decide +kernel)
theorem o228_485 : OKp l S b Lx xs dC dI cA 228 485 (s_aload 0) := ok_aload_n (k9 := 0) (by decide +kernel) rfl (by decide +kernel)
theorem o228_486 : OKp l S b Lx xs dC dI cA 228 486 (s_iload 4) := ok_iload (by decide +kernel) (by decide +kernel)
theorem o228_487 : OKp l S b Lx xs dC dI cA 228 487 (s_const (1)) := ok_iconst (n := 1) (by decide +kernel) (by decide) (by decide +kernel)
theorem o228_488 : OKp l S b Lx xs dC dI cA 228 488 (s_bin g_iadd) := ok_iadd (by decide +kernel) (by decide +kernel)
theorem o228_489 : OKp l S b Lx xs dC dI cA 228 489 (s_sld) := ok_sld (fun s h => h rfl) (by decide +kernel) (by decide +kernel)
theorem o228_490 : OKp l S b Lx xs dC dI cA 228 490 (s_aload 0) := ok_aload_n (k9 := 0) (by decide +kernel) rfl (by decide +kernel)
theorem o228_491 : OKp l S b Lx xs dC dI cA 228 491 (s_iload 4) := ok_iload (by decide +kernel) (by decide +kernel)
theorem o228_492 : OKp l S b Lx xs dC dI cA 228 492 (s_const (2)) := ok_iconst (n := 2) (by decide +kernel) (by decide) (by decide +kernel)
theorem o228_493 : OKp l S b Lx xs dC dI cA 228 493 (s_bin g_iadd) := ok_iadd (by decide +kernel) (by decide +kernel)
theorem o228_494 : OKp l S b Lx xs dC dI cA 228 494 (s_sld) := ok_sld (fun s h => h rfl) (by decide +kernel) (by decide +kernel)
theorem o228_495 : OKp l S b Lx xs dC dI cA 228 495 (s_invV (dv1 11 95 5) [] 2) := ok_invV (dv1_ok vc_RL_92_11 rfl (by decide) (hXX 95 (by decide))) (by decide +kernel) (by decide +kernel)
theorem o228_496 : OKp l S b Lx xs dC dI cA 228 496 (s_aload 2) := ok_aload_n (k9 := 2) (by decide +kernel) rfl (by decide +kernel)
theorem o228_497 : OKp l S b Lx xs dC dI cA 228 497 (s_aload 0) := ok_aload_n (k9 := 0) (by decide +kernel) rfl (by decide +kernel)
theorem o228_498 : OKp l S b Lx xs dC dI cA 228 498 (s_iload 4) := ok_iload (by decide +kernel) (by decide +kernel)
theorem o228_499 : OKp l S b Lx xs dC dI cA 228 499 (s_const (1)) := ok_iconst (n := 1) (by decide +kernel) (by decide) (by decide +kernel)
theorem o228_500 : OKp l S b Lx xs dC dI cA 228 500 (s_bin g_iadd) := ok_iadd (by decide +kernel) (by decide +kernel)
theorem o228_501 : OKp l S b Lx xs dC dI cA 228 501 (s_sld) := ok_sld (fun s h => h rfl) (by decide +kernel) (by decide +kernel)
theorem o228_502 : OKp l S b Lx xs dC dI cA 228 502 (s_aload 0) := ok_aload_n (k9 := 0) (by decide +kernel) rfl (by decide +kernel)
theorem o228_503 : OKp l S b Lx xs dC dI cA 228 503 (s_iload 4) := ok_iload (by decide +kernel) (by decide +kernel)
theorem o228_504 : OKp l S b Lx xs dC dI cA 228 504 (s_const (2)) := ok_iconst (n := 2) (by decide +kernel) (by decide) (by decide +kernel)
theorem o228_505 : OKp l S b Lx xs dC dI cA 228 505 (s_bin g_iadd) := ok_iadd (by decide +kernel) (by decide +kernel)
theorem o228_506 : OKp l S b Lx xs dC dI cA 228 506 (s_sld) := ok_sld (fun s h => h rfl) (by decide +kernel) (by decide +kernel)
theorem o228_507 : OKp l S b Lx xs dC dI cA 228 507 (s_invV (dv1 12 200 3) [] 2) := ok_invV (dv1_ok vc_RL_95_12 rfl (by decide) (hXX 200 (by decide))) (by decide +kernel) (by decide +kernel)
theorem o228_508 : OKp l S b Lx xs dC dI cA 228 508 (s_icmp (fun x y => x = y) 1007) := ok_icmp_eq (off := 688) (by decide +kernel) (by decide +kernel) (by decide +kernel)
theorem o228_509 : OKp l S b Lx xs dC dI cA 228 509 (s_const (0)) := ok_iconst (n := 0) (by decide +kernel) (by decide) (by decide +kernel)
theorem o228_510 : OKp l S b Lx xs dC dI cA 228 510 (s_zret) := ok_zret (by decide +kernel) rfl
theorem o228_511 : OKp l S b Lx xs dC dI cA 228 511 (s_aload 1) := ok_aload_n (k9 := 1) (by decide +kernel) rfl (by decide +kernel)
theorem o228_512 : OKp l S b Lx xs dC dI cA 228 512 (s_aload 0) := ok_aload_n (k9 := 0) (by decide +kernel) rfl (by decide +kernel)
theorem o228_513 : OKp l S b Lx xs dC dI cA 228 513 (s_iload 4) := ok_iload (by decide +kernel) (by decide +kernel)
theorem o228_514 : OKp l S b Lx xs dC dI cA 228 514 (s_const (1)) := ok_iconst (n := 1) (by decide +kernel) (by decide) (by decide +kernel)
theorem o228_515 : OKp l S b Lx xs dC dI cA 228 515 (s_bin g_iadd) := ok_iadd (by decide +kernel) (by decide +kernel)
theorem o228_516 : OKp l S b Lx xs dC dI cA 228 516 (s_sld) := ok_sld (fun s h => h rfl) (by decide +kernel) (by decide +kernel)
theorem o228_517 : OKp l S b Lx xs dC dI cA 228 517 (s_aload 0) := ok_aload_n (k9 := 0) (by decide +kernel) rfl (by decide +kernel)
theorem o228_518 : OKp l S b Lx xs dC dI cA 228 518 (s_iload 4) := ok_iload (by decide +kernel) (by decide +kernel)
theorem o228_519 : OKp l S b Lx xs dC dI cA 228 519 (s_const (2)) := ok_iconst (n := 2) (by decide +kernel) (by decide) (by decide +kernel)
theorem o228_520 : OKp l S b Lx xs dC dI cA 228 520 (s_bin g_iadd) := ok_iadd (by decide +kernel) (by decide +kernel)
theorem o228_521 : OKp l S b Lx xs dC dI cA 228 521 (s_sld) := ok_sld (fun s h => h rfl) (by decide +kernel) (by decide +kernel)
theorem o228_522 : OKp l S b Lx xs dC dI cA 228 522 (s_aload 0) := ok_aload_n (k9 := 0) (by decide +kernel) rfl (by decide +kernel)
theorem o228_523 : OKp l S b Lx xs dC dI cA 228 523 (s_iload 4) := ok_iload (by decide +kernel) (by decide +kernel)
theorem o228_524 : OKp l S b Lx xs dC dI cA 228 524 (s_const (3)) := ok_iconst (n := 3) (by decide +kernel) (by decide) (by decide +kernel)
theorem o228_525 : OKp l S b Lx xs dC dI cA 228 525 (s_bin g_iadd) := ok_iadd (by decide +kernel) (by decide +kernel)
theorem o228_526 : OKp l S b Lx xs dC dI cA 228 526 (s_sld) := ok_sld (fun s h => h rfl) (by decide +kernel) (by decide +kernel)
theorem o228_527 : OKp l S b Lx xs dC dI cA 228 527 (s_invV (dv1 11 96 12) [] 3) := ok_invV (dv1_ok vc_RL_96_11 rfl (by decide) (hXX 96 (by decide))) (by decide +kernel) (by decide +kernel)
theorem o228_528 : OKp l S b Lx xs dC dI cA 228 528 (s_aload 2) := ok_aload_n (k9 := 2) (by decide +kernel) rfl (by decide +kernel)
theorem o228_529 : OKp l S b Lx xs dC dI cA 228 529 (s_aload 0) := ok_aload_n (k9 := 0) (by decide +kernel) rfl (by decide +kernel)
theorem o228_530 : OKp l S b Lx xs dC dI cA 228 530 (s_iload 4) := ok_iload (by decide +kernel) (by decide +kernel)
theorem o228_531 : OKp l S b Lx xs dC dI cA 228 531 (s_const (1)) := ok_iconst (n := 1) (by decide +kernel) (by decide) (by decide +kernel)
theorem o228_532 : OKp l S b Lx xs dC dI cA 228 532 (s_bin g_iadd) := ok_iadd (by decide +kernel) (by decide +kernel)
theorem o228_533 : OKp l S b Lx xs dC dI cA 228 533 (s_sld) := ok_sld (fun s h => h rfl) (by decide +kernel) (by decide +kernel)
theorem o228_534 : OKp l S b Lx xs dC dI cA 228 534 (s_aload 0) := ok_aload_n (k9 := 0) (by decide +kernel) rfl (by decide +kernel)
theorem o228_535 : OKp l S b Lx xs dC dI cA 228 535 (s_iload 4) := ok_iload (by decide +kernel) (by decide +kernel)
theorem o228_536 : OKp l S b Lx xs dC dI cA 228 536 (s_const (2)) := ok_iconst (n := 2) (by decide +kernel) (by decide) (by decide +kernel)
theorem o228_537 : OKp l S b Lx xs dC dI cA 228 537 (s_bin g_iadd) := ok_iadd (by decide +kernel) (by decide +kernel)
theorem o228_538 : OKp l S b Lx xs dC dI cA 228 538 (s_sld) := ok_sld (fun s h => h rfl) (by decide +kernel) (by decide +kernel)
theorem o228_539 : OKp l S b Lx xs dC dI cA 228 539 (s_aload 0) := ok_aload_n (k9 := 0) (by decide +kernel) rfl (by decide +kernel)
theorem o228_540 : OKp l S b Lx xs dC dI cA 228 540 (s_iload 4) := ok_iload (by decide +kernel) (by decide +kernel)
theorem o228_541 : OKp l S b Lx xs dC dI cA 228 541 (s_const (3)) := ok_iconst (n := 3) (by decide +kernel) (by decide) (by decide +kernel)
theorem o228_542 : OKp l S b Lx xs dC dI cA 228 542 (s_bin g_iadd) := ok_iadd (by decide +kernel) (by decide +kernel)
theorem o228_543 : OKp l S b Lx xs dC dI cA 228 543 (s_sld) := ok_sld (fun s h => h rfl) (by decide +kernel) (by decide +kernel)
theorem o228_544 : OKp l S b Lx xs dC dI cA 228 544 (s_invV (dv1 12 202 11) [] 3) := ok_invV (dv1_ok vc_RL_99_12 rfl (by decide) (hXX 202 (by decide))) (by decide +kernel) (by decide +kernel)
theorem o228_545 : OKp l S b Lx xs dC dI cA 228 545 (s_icmp (fun x y => x = y) 1007) := ok_icmp_eq (off := 639) (by decide +kernel) (by decide +kernel) (by decide +kernel)
theorem o228_546 : OKp l S b Lx xs dC dI cA 228 546 (s_const (0)) := ok_iconst (n := 0) (by decide +kernel) (by decide) (by decide +kernel)
theorem o228_547 : OKp l S b Lx xs dC dI cA 228 547 (s_zret) := ok_zret (by decide +kernel) rfl
theorem o228_548 : OKp l S b Lx xs dC dI cA 228 548 (s_aload 1) := ok_aload_n (k9 := 1) (by decide +kernel) rfl (by decide +kernel)
theorem o228_549 : OKp l S b Lx xs dC dI cA 228 549 (s_aload 0) := ok_aload_n (k9 := 0) (by decide +kernel) rfl (by decide +kernel)
theorem o228_550 : OKp l S b Lx xs dC dI cA 228 550 (s_iload 4) := ok_iload (by decide +kernel) (by decide +kernel)
theorem o228_551 : OKp l S b Lx xs dC dI cA 228 551 (s_const (1)) := ok_iconst (n := 1) (by decide +kernel) (by decide) (by decide +kernel)
theorem o228_552 : OKp l S b Lx xs dC dI cA 228 552 (s_bin g_iadd) := ok_iadd (by decide +kernel) (by decide +kernel)
theorem o228_553 : OKp l S b Lx xs dC dI cA 228 553 (s_sld) := ok_sld (fun s h => h rfl) (by decide +kernel) (by decide +kernel)
theorem o228_554 : OKp l S b Lx xs dC dI cA 228 554 (s_aload 0) := ok_aload_n (k9 := 0) (by decide +kernel) rfl (by decide +kernel)
theorem o228_555 : OKp l S b Lx xs dC dI cA 228 555 (s_iload 4) := ok_iload (by decide +kernel) (by decide +kernel)
theorem o228_556 : OKp l S b Lx xs dC dI cA 228 556 (s_const (2)) := ok_iconst (n := 2) (by decide +kernel) (by decide) (by decide +kernel)
theorem o228_557 : OKp l S b Lx xs dC dI cA 228 557 (s_bin g_iadd) := ok_iadd (by decide +kernel) (by decide +kernel)
theorem o228_558 : OKp l S b Lx xs dC dI cA 228 558 (s_sld) := ok_sld (fun s h => h rfl) (by decide +kernel) (by decide +kernel)
theorem o228_559 : OKp l S b Lx xs dC dI cA 228 559 (s_aload 0) := ok_aload_n (k9 := 0) (by decide +kernel) rfl (by decide +kernel)
theorem o228_560 : OKp l S b Lx xs dC dI cA 228 560 (s_iload 4) := ok_iload (by decide +kernel) (by decide +kernel)
theorem o228_561 : OKp l S b Lx xs dC dI cA 228 561 (s_const (3)) := ok_iconst (n := 3) (by decide +kernel) (by decide) (by decide +kernel)
theorem o228_562 : OKp l S b Lx xs dC dI cA 228 562 (s_bin g_iadd) := ok_iadd (by decide +kernel) (by decide +kernel)
theorem o228_563 : OKp l S b Lx xs dC dI cA 228 563 (s_sld) := ok_sld (fun s h => h rfl) (by decide +kernel) (by decide +kernel)
theorem o228_564 : OKp l S b Lx xs dC dI cA 228 564 (s_invV (dv1 11 97 13) [] 3) := ok_invV (dv1_ok vc_RL_100_11 rfl (by decide) (hXX 97 (by decide))) (by decide +kernel) (by decide +kernel)
theorem o228_565 : OKp l S b Lx xs dC dI cA 228 565 (s_aload 2) := ok_aload_n (k9 := 2) (by decide +kernel) rfl (by decide +kernel)
theorem o228_566 : OKp l S b Lx xs dC dI cA 228 566 (s_aload 0) := ok_aload_n (k9 := 0) (by decide +kernel) rfl (by decide +kernel)
theorem o228_567 : OKp l S b Lx xs dC dI cA 228 567 (s_iload 4) := ok_iload (by decide +kernel) (by decide +kernel)
theorem o228_568 : OKp l S b Lx xs dC dI cA 228 568 (s_const (1)) := ok_iconst (n := 1) (by decide +kernel) (by decide) (by decide +kernel)
theorem o228_569 : OKp l S b Lx xs dC dI cA 228 569 (s_bin g_iadd) := ok_iadd (by decide +kernel) (by decide +kernel)
theorem o228_570 : OKp l S b Lx xs dC dI cA 228 570 (s_sld) := ok_sld (fun s h => h rfl) (by decide +kernel) (by decide +kernel)
theorem o228_571 : OKp l S b Lx xs dC dI cA 228 571 (s_aload 0) := ok_aload_n (k9 := 0) (by decide +kernel) rfl (by decide +kernel)
theorem o228_572 : OKp l S b Lx xs dC dI cA 228 572 (s_iload 4) := ok_iload (by decide +kernel) (by decide +kernel)
theorem o228_573 : OKp l S b Lx xs dC dI cA 228 573 (s_const (2)) := ok_iconst (n := 2) (by decide +kernel) (by decide) (by decide +kernel)
theorem o228_574 : OKp l S b Lx xs dC dI cA 228 574 (s_bin g_iadd) := ok_iadd (by decide +kernel) (by decide +kernel)
theorem o228_575 : OKp l S b Lx xs dC dI cA 228 575 (s_sld) := ok_sld (fun s h => h rfl) (by decide +kernel) (by decide +kernel)
theorem o228_576 : OKp l S b Lx xs dC dI cA 228 576 (s_aload 0) := ok_aload_n (k9 := 0) (by decide +kernel) rfl (by decide +kernel)
theorem o228_577 : OKp l S b Lx xs dC dI cA 228 577 (s_iload 4) := ok_iload (by decide +kernel) (by decide +kernel)
theorem o228_578 : OKp l S b Lx xs dC dI cA 228 578 (s_const (3)) := ok_iconst (n := 3) (by decide +kernel) (by decide) (by decide +kernel)
theorem o228_579 : OKp l S b Lx xs dC dI cA 228 579 (s_bin g_iadd) := ok_iadd (by decide +kernel) (by decide +kernel)
theorem o228_580 : OKp l S b Lx xs dC dI cA 228 580 (s_sld) := ok_sld (fun s h => h rfl) (by decide +kernel) (by decide +kernel)
theorem o228_581 : OKp l S b Lx xs dC dI cA 228 581 (s_invV (dv1 12 203 6) [] 3) := ok_invV (dv1_ok vc_RL_103_12 rfl (by decide) (hXX 203 (by decide))) (by decide +kernel) (by decide +kernel)
theorem o228_582 : OKp l S b Lx xs dC dI cA 228 582 (s_icmp (fun x y => x = y) 1007) := ok_icmp_eq (off := 590) (by decide +kernel) (by decide +kernel) (by decide +kernel)
theorem o228_583 : OKp l S b Lx xs dC dI cA 228 583 (s_const (0)) := ok_iconst (n := 0) (by decide +kernel) (by decide) (by decide +kernel)
theorem o228_584 : OKp l S b Lx xs dC dI cA 228 584 (s_zret) := ok_zret (by decide +kernel) rfl
theorem o228_585 : OKp l S b Lx xs dC dI cA 228 585 (s_aload 1) := ok_aload_n (k9 := 1) (by decide +kernel) rfl (by decide +kernel)
theorem o228_586 : OKp l S b Lx xs dC dI cA 228 586 (s_aload 0) := ok_aload_n (k9 := 0) (by decide +kernel) rfl (by decide +kernel)
theorem o228_587 : OKp l S b Lx xs dC dI cA 228 587 (s_iload 4) := ok_iload (by decide +kernel) (by decide +kernel)
theorem o228_588 : OKp l S b Lx xs dC dI cA 228 588 (s_const (1)) := ok_iconst (n := 1) (by decide +kernel) (by decide) (by decide +kernel)
theorem o228_589 : OKp l S b Lx xs dC dI cA 228 589 (s_bin g_iadd) := ok_iadd (by decide +kernel) (by decide +kernel)
theorem o228_590 : OKp l S b Lx xs dC dI cA 228 590 (s_sld) := ok_sld (fun s h => h rfl) (by decide +kernel) (by decide +kernel)
theorem o228_591 : OKp l S b Lx xs dC dI cA 228 591 (s_aload 0) := ok_aload_n (k9 := 0) (by decide +kernel) rfl (by decide +kernel)
theorem o228_592 : OKp l S b Lx xs dC dI cA 228 592 (s_iload 4) := ok_iload (by decide +kernel) (by decide +kernel)
theorem o228_593 : OKp l S b Lx xs dC dI cA 228 593 (s_const (2)) := ok_iconst (n := 2) (by decide +kernel) (by decide) (by decide +kernel)
theorem o228_594 : OKp l S b Lx xs dC dI cA 228 594 (s_bin g_iadd) := ok_iadd (by decide +kernel) (by decide +kernel)
theorem o228_595 : OKp l S b Lx xs dC dI cA 228 595 (s_sld) := ok_sld (fun s h => h rfl) (by decide +kernel) (by decide +kernel)
theorem o228_596 : OKp l S b Lx xs dC dI cA 228 596 (s_aload 0) := ok_aload_n (k9 := 0) (by decide +kernel) rfl (by decide +kernel)
theorem o228_597 : OKp l S b Lx xs dC dI cA 228 597 (s_iload 4) := ok_iload (by decide +kernel) (by decide +kernel)
theorem o228_598 : OKp l S b Lx xs dC dI cA 228 598 (s_const (3)) := ok_iconst (n := 3) (by decide +kernel) (by decide) (by decide +kernel)
theorem o228_599 : OKp l S b Lx xs dC dI cA 228 599 (s_bin g_iadd) := ok_iadd (by decide +kernel) (by decide +kernel)
theorem o228_600 : OKp l S b Lx xs dC dI cA 228 600 (s_sld) := ok_sld (fun s h => h rfl) (by decide +kernel) (by decide +kernel)
theorem o228_601 : OKp l S b Lx xs dC dI cA 228 601 (s_invV (dv1 11 98 6) [] 3) := ok_invV (dv1_ok vc_RL_104_11 rfl (by decide) (hXX 98 (by decide))) (by decide +kernel) (by decide +kernel)
theorem o228_602 : OKp l S b Lx xs dC dI cA 228 602 (s_aload 2) := ok_aload_n (k9 := 2) (by decide +kernel) rfl (by decide +kernel)
theorem o228_603 : OKp l S b Lx xs dC dI cA 228 603 (s_aload 0) := ok_aload_n (k9 := 0) (by decide +kernel) rfl (by decide +kernel)
theorem o228_604 : OKp l S b Lx xs dC dI cA 228 604 (s_iload 4) := ok_iload (by decide +kernel) (by decide +kernel)
theorem o228_605 : OKp l S b Lx xs dC dI cA 228 605 (s_const (1)) := ok_iconst (n := 1) (by decide +kernel) (by decide) (by decide +kernel)
theorem o228_606 : OKp l S b Lx xs dC dI cA 228 606 (s_bin g_iadd) := ok_iadd (by decide +kernel) (by decide +kernel)
theorem o228_607 : OKp l S b Lx xs dC dI cA 228 607 (s_sld) := ok_sld (fun s h => h rfl) (by decide +kernel) (by decide +kernel)
theorem o228_608 : OKp l S b Lx xs dC dI cA 228 608 (s_aload 0) := ok_aload_n (k9 := 0) (by decide +kernel) rfl (by decide +kernel)
theorem o228_609 : OKp l S b Lx xs dC dI cA 228 609 (s_iload 4) := ok_iload (by decide +kernel) (by decide +kernel)
theorem o228_610 : OKp l S b Lx xs dC dI cA 228 610 (s_const (2)) := ok_iconst (n := 2) (by decide +kernel) (by decide) (by decide +kernel)
theorem o228_611 : OKp l S b Lx xs dC dI cA 228 611 (s_bin g_iadd) := ok_iadd (by decide +kernel) (by decide +kernel)
theorem o228_612 : OKp l S b Lx xs dC dI cA 228 612 (s_sld) := ok_sld (fun s h => h rfl) (by decide +kernel) (by decide +kernel)
theorem o228_613 : OKp l S b Lx xs dC dI cA 228 613 (s_aload 0) := ok_aload_n (k9 := 0) (by decide +kernel) rfl (by decide +kernel)
theorem o228_614 : OKp l S b Lx xs dC dI cA 228 614 (s_iload 4) := ok_iload (by decide +kernel) (by decide +kernel)
theorem o228_615 : OKp l S b Lx xs dC dI cA 228 615 (s_const (3)) := ok_iconst (n := 3) (by decide +kernel) (by decide) (by decide +kernel)
theorem o228_616 : OKp l S b Lx xs dC dI cA 228 616 (s_bin g_iadd) := ok_iadd (by decide +kernel) (by decide +kernel)
theorem o228_617 : OKp l S b Lx xs dC dI cA 228 617 (s_sld) := ok_sld (fun s h => h rfl) (by decide +kernel) (by decide +kernel)
theorem o228_618 : OKp l S b Lx xs dC dI cA 228 618 (s_invV (dv1 12 204 7) [] 3) := ok_invV (dv1_ok vc_RL_107_12 rfl (by decide) (hXX 204 (by decide))) (by decide +kernel) (by decide +kernel)
theorem o228_619 : OKp l S b Lx xs dC dI cA 228 619 (s_icmp (fun x y => x = y) 1007) := ok_icmp_eq (off := 541) (by decide +kernel) (by decide +kernel) (by decide +kernel)
theorem o228_620 : OKp l S b Lx xs dC dI cA 228 620 (s_const (0)) := ok_iconst (n := 0) (by decide +kernel) (by decide) (by decide +kernel)
theorem o228_621 : OKp l S b Lx xs dC dI cA 228 621 (s_zret) := ok_zret (by decide +kernel) rfl
theorem o228_622 : OKp l S b Lx xs dC dI cA 228 622 (s_aload 1) := ok_aload_n (k9 := 1) (by decide +kernel) rfl (by decide +kernel)
theorem o228_623 : OKp l S b Lx xs dC dI cA 228 623 (s_aload 0) := ok_aload_n (k9 := 0) (by decide +kernel) rfl (by decide +kernel)
theorem o228_624 : OKp l S b Lx xs dC dI cA 228 624 (s_iload 4) := ok_iload (by decide +kernel) (by decide +kernel)
theorem o228_625 : OKp l S b Lx xs dC dI cA 228 625 (s_const (1)) := ok_iconst (n := 1) (by decide +kernel) (by decide) (by decide +kernel)
theorem o228_626 : OKp l S b Lx xs dC dI cA 228 626 (s_bin g_iadd) := ok_iadd (by decide +kernel) (by decide +kernel)
theorem o228_627 : OKp l S b Lx xs dC dI cA 228 627 (s_sld) := ok_sld (fun s h => h rfl) (by decide +kernel) (by decide +kernel)
theorem o228_628 : OKp l S b Lx xs dC dI cA 228 628 (s_aload 0) := ok_aload_n (k9 := 0) (by decide +kernel) rfl (by decide +kernel)
theorem o228_629 : OKp l S b Lx xs dC dI cA 228 629 (s_iload 4) := ok_iload (by decide +kernel) (by decide +kernel)
theorem o228_630 : OKp l S b Lx xs dC dI cA 228 630 (s_const (2)) := ok_iconst (n := 2) (by decide +kernel) (by decide) (by decide +kernel)
theorem o228_631 : OKp l S b Lx xs dC dI cA 228 631 (s_bin g_iadd) := ok_iadd (by decide +kernel) (by decide +kernel)
theorem o228_632 : OKp l S b Lx xs dC dI cA 228 632 (s_sld) := ok_sld (fun s h => h rfl) (by decide +kernel) (by decide +kernel)
theorem o228_633 : OKp l S b Lx xs dC dI cA 228 633 (s_aload 0) := ok_aload_n (k9 := 0) (by decide +kernel) rfl (by decide +kernel)
theorem o228_634 : OKp l S b Lx xs dC dI cA 228 634 (s_iload 4) := ok_iload (by decide +kernel) (by decide +kernel)
theorem o228_635 : OKp l S b Lx xs dC dI cA 228 635 (s_const (3)) := ok_iconst (n := 3) (by decide +kernel) (by decide) (by decide +kernel)
theorem o228_636 : OKp l S b Lx xs dC dI cA 228 636 (s_bin g_iadd) := ok_iadd (by decide +kernel) (by decide +kernel)
theorem o228_637 : OKp l S b Lx xs dC dI cA 228 637 (s_sld) := ok_sld (fun s h => h rfl) (by decide +kernel) (by decide +kernel)
theorem o228_638 : OKp l S b Lx xs dC dI cA 228 638 (s_invV (dv1 11 99 8) [] 3) := ok_invV (dv1_ok vc_RL_108_11 rfl (by decide) (hXX 99 (by decide))) (by decide +kernel) (by decide +kernel)
theorem o228_639 : OKp l S b Lx xs dC dI cA 228 639 (s_aload 2) := ok_aload_n (k9 := 2) (by decide +kernel) rfl (by decide +kernel)
theorem o228_640 : OKp l S b Lx xs dC dI cA 228 640 (s_aload 0) := ok_aload_n (k9 := 0) (by decide +kernel) rfl (by decide +kernel)
theorem o228_641 : OKp l S b Lx xs dC dI cA 228 641 (s_iload 4) := ok_iload (by decide +kernel) (by decide +kernel)
theorem o228_642 : OKp l S b Lx xs dC dI cA 228 642 (s_const (1)) := ok_iconst (n := 1) (by decide +kernel) (by decide) (by decide +kernel)
theorem o228_643 : OKp l S b Lx xs dC dI cA 228 643 (s_bin g_iadd) := ok_iadd (by decide +kernel) (by decide +kernel)
theorem o228_644 : OKp l S b Lx xs dC dI cA 228 644 (s_sld) := ok_sld (fun s h => h rfl) (by decide +kernel) (by decide +kernel)
theorem o228_645 : OKp l S b Lx xs dC dI cA 228 645 (s_aload 0) := ok_aload_n (k9 := 0) (by decide +kernel) rfl (by decide +kernel)
theorem o228_646 : OKp l S b Lx xs dC dI cA 228 646 (s_iload 4) := ok_iload (by decide +kernel) (by decide +kernel)
theorem o228_647 : OKp l S b Lx xs dC dI cA 228 647 (s_const (2)) := ok_iconst (n := 2) (by decide +kernel) (by decide) (by decide +kernel)
theorem o228_648 : OKp l S b Lx xs dC dI cA 228 648 (s_bin g_iadd) := ok_iadd (by decide +kernel) (by decide +kernel)
theorem o228_649 : OKp l S b Lx xs dC dI cA 228 649 (s_sld) := ok_sld (fun s h => h rfl) (by decide +kernel) (by decide +kernel)
theorem o228_650 : OKp l S b Lx xs dC dI cA 228 650 (s_aload 0) := ok_aload_n (k9 := 0) (by decide +kernel) rfl (by decide +kernel)
theorem o228_651 : OKp l S b Lx xs dC dI cA 228 651 (s_iload 4) := ok_iload (by decide +kernel) (by decide +kernel)
theorem o228_652 : OKp l S b Lx xs dC dI cA 228 652 (s_const (3)) := ok_iconst (n := 3) (by decide +kernel) (by decide) (by decide +kernel)
theorem o228_653 : OKp l S b Lx xs dC dI cA 228 653 (s_bin g_iadd) := ok_iadd (by decide +kernel) (by decide +kernel)
theorem o228_654 : OKp l S b Lx xs dC dI cA 228 654 (s_sld) := ok_sld (fun s h => h rfl) (by decide +kernel) (by decide +kernel)
theorem o228_655 : OKp l S b Lx xs dC dI cA 228 655 (s_invV (dv1 12 206 6) [] 3) := ok_invV (dv1_ok vc_RL_111_12 rfl (by decide) (hXX 206 (by decide))) (by decide +kernel) (by decide +kernel)
theorem o228_656 : OKp l S b Lx xs dC dI cA 228 656 (s_icmp (fun x y => x = y) 1007) := ok_icmp_eq (off := 492) (by decide +kernel) (by decide +kernel) (by decide +kernel)
theorem o228_657 : OKp l S b Lx xs dC dI cA 228 657 (s_const (0)) := ok_iconst (n := 0) (by decide +kernel) (by decide) (by decide +kernel)
theorem o228_658 : OKp l S b Lx xs dC dI cA 228 658 (s_zret) := ok_zret (by decide +kernel) rfl
theorem o228_659 : OKp l S b Lx xs dC dI cA 228 659 (s_aload 1) := ok_aload_n (k9 := 1) (by decide +kernel) rfl (by decide +kernel)
theorem o228_660 : OKp l S b Lx xs dC dI cA 228 660 (s_aload 0) := ok_aload_n (k9 := 0) (by decide +kernel) rfl (by decide +kernel)
theorem o228_661 : OKp l S b Lx xs dC dI cA 228 661 (s_iload 4) := ok_iload (by decide +kernel) (by decide +kernel)
theorem o228_662 : OKp l S b Lx xs dC dI cA 228 662 (s_const (1)) := ok_iconst (n := 1) (by decide +kernel) (by decide) (by decide +kernel)
theorem o228_663 : OKp l S b Lx xs dC dI cA 228 663 (s_bin g_iadd) := ok_iadd (by decide +kernel) (by decide +kernel)
theorem o228_664 : OKp l S b Lx xs dC dI cA 228 664 (s_sld) := ok_sld (fun s h => h rfl) (by decide +kernel) (by decide +kernel)
theorem o228_665 : OKp l S b Lx xs dC dI cA 228 665 (s_aload 0) := ok_aload_n (k9 := 0) (by decide +kernel) rfl (by decide +kernel)
theorem o228_666 : OKp l S b Lx xs dC dI cA 228 666 (s_iload 4) := ok_iload (by decide +kernel) (by decide +kernel)
theorem o228_667 : OKp l S b Lx xs dC dI cA 228 667 (s_const (2)) := ok_iconst (n := 2) (by decide +kernel) (by decide) (by decide +kernel)
theorem o228_668 : OKp l S b Lx xs dC dI cA 228 668 (s_bin g_iadd) := ok_iadd (by decide +kernel) (by decide +kernel)
theorem o228_669 : OKp l S b Lx xs dC dI cA 228 669 (s_sld) := ok_sld (fun s h => h rfl) (by decide +kernel) (by decide +kernel)
theorem o228_670 : OKp l S b Lx xs dC dI cA 228 670 (s_invV (dv1 11 100 8) [] 2) := ok_invV (dv1_ok vc_RL_112_11 rfl (by decide) (hXX 100 (by decide))) (by decide +kernel) (by decide +kernel)
theorem o228_671 : OKp l S b Lx xs dC dI cA 228 671 (s_aload 2) := ok_aload_n (k9 := 2) (by decide +kernel) rfl (by decide +kernel)
theorem o228_672 : OKp l S b Lx xs dC dI cA 228 672 (s_aload 0) := ok_aload_n (k9 := 0) (by decide +kernel) rfl (by decide +kernel)
theorem o228_673 : OKp l S b Lx xs dC dI cA 228 673 (s_iload 4) := ok_iload (by decide +kernel) (by decide +kernel)
theorem o228_674 : OKp l S b Lx xs dC dI cA 228 674 (s_const (1)) := ok_iconst (n := 1) (by decide +kernel) (by decide) (by decide +kernel)
theorem o228_675 : OKp l S b Lx xs dC dI cA 228 675 (s_bin g_iadd) := ok_iadd (by decide +kernel) (by decide +kernel)
theorem o228_676 : OKp l S b Lx xs dC dI cA 228 676 (s_sld) := ok_sld (fun s h => h rfl) (by decide +kernel) (by decide +kernel)
theorem o228_677 : OKp l S b Lx xs dC dI cA 228 677 (s_aload 0) := ok_aload_n (k9 := 0) (by decide +kernel) rfl (by decide +kernel)
theorem o228_678 : OKp l S b Lx xs dC dI cA 228 678 (s_iload 4) := ok_iload (by decide +kernel) (by decide +kernel)
theorem o228_679 : OKp l S b Lx xs dC dI cA 228 679 (s_const (2)) := ok_iconst (n := 2) (by decide +kernel) (by decide) (by decide +kernel)
theorem o228_680 : OKp l S b Lx xs dC dI cA 228 680 (s_bin g_iadd) := ok_iadd (by decide +kernel) (by decide +kernel)
theorem o228_681 : OKp l S b Lx xs dC dI cA 228 681 (s_sld) := ok_sld (fun s h => h rfl) (by decide +kernel) (by decide +kernel)
theorem o228_682 : OKp l S b Lx xs dC dI cA 228 682 (s_invV (dv1 12 208 6) [] 2) := ok_invV (dv1_ok vc_RL_115_12 rfl (by decide) (hXX 208 (by decide))) (by decide +kernel) (by decide +kernel)
theorem o228_683 : OKp l S b Lx xs dC dI cA 228 683 (s_icmp (fun x y => x = y) 1007) := ok_icmp_eq (off := 455) (by decide +kernel) (by decide +kernel) (by decide +kernel)
theorem o228_684 : OKp l S b Lx xs dC dI cA 228 684 (s_const (0)) := ok_iconst (n := 0) (by decide +kernel) (by decide) (by decide +kernel)
theorem o228_685 : OKp l S b Lx xs dC dI cA 228 685 (s_zret) := ok_zret (by decide +kernel) rfl
theorem o228_686 : OKp l S b Lx xs dC dI cA 228 686 (s_aload 1) := ok_aload_n (k9 := 1) (by decide +kernel) rfl (by decide +kernel)
theorem o228_687 : OKp l S b Lx xs dC dI cA 228 687 (s_aload 0) := ok_aload_n (k9 := 0) (by decide +kernel) rfl (by decide +kernel)
theorem o228_688 : OKp l S b Lx xs dC dI cA 228 688 (s_iload 4) := ok_iload (by decide +kernel) (by decide +kernel)
theorem o228_689 : OKp l S b Lx xs dC dI cA 228 689 (s_const (1)) := ok_iconst (n := 1) (by decide +kernel) (by decide) (by decide +kernel)
theorem o228_690 : OKp l S b Lx xs dC dI cA 228 690 (s_bin g_iadd) := ok_iadd (by decide +kernel) (by decide +kernel)
theorem o228_691 : OKp l S b Lx xs dC dI cA 228 691 (s_sld) := ok_sld (fun s h => h rfl) (by decide +kernel) (by decide +kernel)
theorem o228_692 : OKp l S b Lx xs dC dI cA 228 692 (s_invV (dv1 11 101 7) [] 1) := ok_invV (dv1_ok vc_RL_116_11 rfl (by decide) (hXX 101 (by decide))) (by decide +kernel) (by decide +kernel)
theorem o228_693 : OKp l S b Lx xs dC dI cA 228 693 (s_aload 2) := ok_aload_n (k9 := 2) (by decide +kernel) rfl (by decide +kernel)
theorem o228_694 : OKp l S b Lx xs dC dI cA 228 694 (s_aload 0) := ok_aload_n (k9 := 0) (by decide +kernel) rfl (by decide +kernel)
theorem o228_695 : OKp l S b Lx xs dC dI cA 228 695 (s_iload 4) := ok_iload (by decide +kernel) (by decide +kernel)
theorem o228_696 : OKp l S b Lx xs dC dI cA 228 696 (s_const (1)) := ok_iconst (n := 1) (by decide +kernel) (by decide) (by decide +kernel)
theorem o228_697 : OKp l S b Lx xs dC dI cA 228 697 (s_bin g_iadd) := ok_iadd (by decide +kernel) (by decide +kernel)
theorem o228_698 : OKp l S b Lx xs dC dI cA 228 698 (s_sld) := ok_sld (fun s h => h rfl) (by decide +kernel) (by decide +kernel)
theorem o228_699 : OKp l S b Lx xs dC dI cA 228 699 (s_invV (dv1 12 210 5) [] 1) := ok_invV (dv1_ok vc_RL_119_12 rfl (by decide) (hXX 210 (by decide))) (by decide +kernel) (by decide +kernel)
theorem o228_700 : OKp l S b Lx xs dC dI cA 228 700 (s_icmp (fun x y => x = y) 1007) := ok_icmp_eq (off := 430) (by decide +kernel) (by decide +kernel) (by decide +kernel)
theorem o228_701 : OKp l S b Lx xs dC dI cA 228 701 (s_const (0)) := ok_iconst (n := 0) (by decide +kernel) (by decide) (by decide +kernel)
theorem o228_702 : OKp l S b Lx xs dC dI cA 228 702 (s_zret) := ok_zret (by decide +kernel) rfl
theorem o228_703 : OKp l S b Lx xs dC dI cA 228 703 (s_aload 1) := ok_aload_n (k9 := 1) (by decide +kernel) rfl (by decide +kernel)
theorem o228_704 : OKp l S b Lx xs dC dI cA 228 704 (s_invV (dv1 11 102 1) [] 0) := ok_invV (dv1_ok vc_RL_120_11 rfl (by decide) (hXX 102 (by decide))) (by decide +kernel) (by decide +kernel)
theorem o228_705 : OKp l S b Lx xs dC dI cA 228 705 (s_aload 2) := ok_aload_n (k9 := 2) (by decide +kernel) rfl (by decide +kernel)
theorem o228_706 : OKp l S b Lx xs dC dI cA 228 706 (s_invV (dv1 12 211 1) [] 0) := ok_invV (dv1_ok vc_RL_124_12 rfl (by decide) (hXX 211 (by decide))) (by decide +kernel) (by decide +kernel)
theorem o228_707 : OKp l S b Lx xs dC dI cA 228 707 (s_icmp (fun x y => x = y) 1007) := ok_icmp_eq (off := 417) (by decide +kernel) (by decide +kernel) (by decide +kernel)
theorem o228_708 : OKp l S b Lx xs dC dI cA 228 708 (s_const (0)) := ok_iconst (n := 0) (by decide +kernel) (by decide) (by decide +kernel)
theorem o228_709 : OKp l S b Lx xs dC dI cA 228 709 (s_zret) := ok_zret (by decide +kernel) rfl
theorem o228_710 : OKp l S b Lx xs dC dI cA 228 710 (s_aload 1) := ok_aload_n (k9 := 1) (by decide +kernel) rfl (by decide +kernel)
theorem o228_711 : OKp l S b Lx xs dC dI cA 228 711 (s_invV (dv1 11 103 1) [] 0) := ok_invV (dv1_ok vc_RL_125_11 rfl (by decide) (hXX 103 (by decide))) (by decide +kernel) (by decide +kernel)
theorem o228_712 : OKp l S b Lx xs dC dI cA 228 712 (s_aload 2) := ok_aload_n (k9 := 2) (by decide +kernel) rfl (by decide +kernel)
theorem o228_713 : OKp l S b Lx xs dC dI cA 228 713 (s_invV (dv1 12 212 1) [] 0) := ok_invV (dv1_ok vc_RL_128_12 rfl (by decide) (hXX 212 (by decide))) (by decide +kernel) (by decide +kernel)
theorem o228_714 : OKp l S b Lx xs dC dI cA 228 714 (s_icmp (fun x y => x = y) 1007) := ok_icmp_eq (off := 404) (by decide +kernel) (by decide +kernel) (by decide +kernel)
theorem o228_715 : OKp l S b Lx xs dC dI cA 228 715 (s_const (0)) := ok_iconst (n := 0) (by decide +kernel) (by decide) (by decide +kernel)
theorem o228_716 : OKp l S b Lx xs dC dI cA 228 716 (s_zret) := ok_zret (by decide +kernel) rfl
theorem o228_717 : OKp l S b Lx xs dC dI cA 228 717 (s_aload 1) := ok_aload_n (k9 := 1) (by decide +kernel) rfl (by decide +kernel)
theorem o228_718 : OKp l S b Lx xs dC dI cA 228 718 (s_aload 0) := ok_aload_n (k9 := 0) (by decide +kernel) rfl (by decide +kernel)
theorem o228_719 : OKp l S b Lx xs dC dI cA 228 719 (s_iload 4) := ok_iload (by decide +kernel) (by decide +kernel)
theorem o228_720 : OKp l S b Lx xs dC dI cA 228 720 (s_const (1)) := ok_iconst (n := 1) (by decide +kernel) (by decide) (by decide +kernel)
theorem o228_721 : OKp l S b Lx xs dC dI cA 228 721 (s_bin g_iadd) := ok_iadd (by decide +kernel) (by decide +kernel)
theorem o228_722 : OKp l S b Lx xs dC dI cA 228 722 (s_sld) := ok_sld (fun s h => h rfl) (by decide +kernel) (by decide +kernel)
theorem o228_723 : OKp l S b Lx xs dC dI cA 228 723 (s_invV (dv1 11 104 2) [] 1) := ok_invV (dv1_ok vc_RL_129_11 rfl (by decide) (hXX 104 (by decide))) (by decide +kernel) (by decide +kernel)
theorem o228_724 : OKp l S b Lx xs dC dI cA 228 724 (s_aload 2) := ok_aload_n (k9 := 2) (by decide +kernel) rfl (by decide +kernel)
theorem o228_725 : OKp l S b Lx xs dC dI cA 228 725 (s_aload 0) := ok_aload_n (k9 := 0) (by decide +kernel) rfl (by decide +kernel)
theorem o228_726 : OKp l S b Lx xs dC dI cA 228 726 (s_iload 4) := ok_iload (by decide +kernel) (by decide +kernel)
theorem o228_727 : OKp l S b Lx xs dC dI cA 228 727 (s_const (1)) := ok_iconst (n := 1) (by decide +kernel) (by decide) (by decide +kernel)
theorem o228_728 : OKp l S b Lx xs dC dI cA 228 728 (s_bin g_iadd) := ok_iadd (by decide +kernel) (by decide +kernel)
theorem o228_729 : OKp l S b Lx xs dC dI cA 228 729 (s_sld) := ok_sld (fun s h => h rfl) (by decide +kernel) (by decide +kernel)
theorem o228_730 : OKp l S b Lx xs dC dI cA 228 730 (s_invV (dv1 12 213 2) [] 1) := ok_invV (dv1_ok vc_RL_132_12 rfl (by decide) (hXX 213 (by decide))) (by decide +kernel) (by decide +kernel)
theorem o228_731 : OKp l S b Lx xs dC dI cA 228 731 (s_icmp (fun x y => x = y) 1007) := ok_icmp_eq (off := 379) (by decide +kernel) (by decide +kernel) (by decide +kernel)
theorem o228_732 : OKp l S b Lx xs dC dI cA 228 732 (s_const (0)) := ok_iconst (n := 0) (by decide +kernel) (by decide) (by decide +kernel)
theorem o228_733 : OKp l S b Lx xs dC dI cA 228 733 (s_zret) := ok_zret (by decide +kernel) rfl
theorem o228_734 : OKp l S b Lx xs dC dI cA 228 734 (s_aload 1) := ok_aload_n (k9 := 1) (by decide +kernel) rfl (by decide +kernel)
theorem o228_735 : OKp l S b Lx xs dC dI cA 228 735 (s_aload 0) := ok_aload_n (k9 := 0) (by decide +kernel) rfl (by decide +kernel)
theorem o228_736 : OKp l S b Lx xs dC dI cA 228 736 (s_iload 4) := ok_iload (by decide +kernel) (by decide +kernel)
theorem o228_737 : OKp l S b Lx xs dC dI cA 228 737 (s_const (1)) := ok_iconst (n := 1) (by decide +kernel) (by decide) (by decide +kernel)
theorem o228_738 : OKp l S b Lx xs dC dI cA 228 738 (s_bin g_iadd) := ok_iadd (by decide +kernel) (by decide +kernel)
theorem o228_739 : OKp l S b Lx xs dC dI cA 228 739 (s_sld) := ok_sld (fun s h => h rfl) (by decide +kernel) (by decide +kernel)
theorem o228_740 : OKp l S b Lx xs dC dI cA 228 740 (s_aload 0) := ok_aload_n (k9 := 0) (by decide +kernel) rfl (by decide +kernel)
theorem o228_741 : OKp l S b Lx xs dC dI cA 228 741 (s_iload 4) := ok_iload (by decide +kernel) (by decide +kernel)
theorem o228_742 : OKp l S b Lx xs dC dI cA 228 742 (s_const (2)) := ok_iconst (n := 2) (by decide +kernel) (by decide) (by decide +kernel)
theorem o228_743 : OKp l S b Lx xs dC dI cA 228 743 (s_bin g_iadd) := ok_iadd (by decide +kernel) (by decide +kernel)
theorem o228_744 : OKp l S b Lx xs dC dI cA 228 744 (s_sld) := ok_sld (fun s h => h rfl) (by decide +kernel) (by decide +kernel)
theorem o228_745 : OKp l S b Lx xs dC dI cA 228 745 (s_aload 0) := ok_aload_n (k9 := 0) (by decide +kernel) rfl (by decide +kernel)
theorem o228_746 : OKp l S b Lx xs dC dI cA 228 746 (s_iload 4) := ok_iload (by decide +kernel) (by decide +kernel)
theorem o228_747 : OKp l S b Lx xs dC dI cA 228 747 (s_const (3)) := ok_iconst (n := 3) (by decide +kernel) (by decide) (by decide +kernel)
theorem o228_748 : OKp l S b Lx xs dC dI cA 228 748 (s_bin g_iadd) := ok_iadd (by decide +kernel) (by decide +kernel)
theorem o228_749 : OKp l S b Lx xs dC dI cA 228 749 (s_sld) := ok_sld (fun s h => h rfl) (by decide +kernel) (by decide +kernel)
theorem o228_750 : OKp l S b Lx xs dC dI cA 228 750 (s_aload 0) := ok_aload_n (k9 := 0) (by decide +kernel) rfl (by decide +kernel)
theorem o228_751 : OKp l S b Lx xs dC dI cA 228 751 (s_iload 4) := ok_iload (by decide +kernel) (by decide +kernel)
theorem o228_752 : OKp l S b Lx xs dC dI cA 228 752 (s_const (4)) := ok_iconst (n := 4) (by decide +kernel) (by decide) (by decide +kernel)
theorem o228_753 : OKp l S b Lx xs dC dI cA 228 753 (s_bin g_iadd) := ok_iadd (by decide +kernel) (by decide +kernel)
theorem o228_754 : OKp l S b Lx xs dC dI cA 228 754 (s_sld) := ok_sld (fun s h => h rfl) (by decide +kernel) (by decide +kernel)
theorem o228_755 : OKp l S b Lx xs dC dI cA 228 755 (s_invV (dv1 11 105 7) [] 4) := ok_invV (dv1_ok vc_RL_133_11 rfl (by decide) (hXX 105 (by decide))) (by decide +kernel) (by decide +kernel)
theorem o228_756 : OKp l S b Lx xs dC dI cA 228 756 (s_aload 2) := ok_aload_n (k9 := 2) (by decide +kernel) rfl (by decide +kernel)
theorem o228_757 : OKp l S b Lx xs dC dI cA 228 757 (s_aload 0) := ok_aload_n (k9 := 0) (by decide +kernel) rfl (by decide +kernel)
theorem o228_758 : OKp l S b Lx xs dC dI cA 228 758 (s_iload 4) := ok_iload (by decide +kernel) (by decide +kernel)
theorem o228_759 : OKp l S b Lx xs dC dI cA 228 759 (s_const (1)) := ok_iconst (n := 1) (by decide +kernel) (by decide) (by decide +kernel)
theorem o228_760 : OKp l S b Lx xs dC dI cA 228 760 (s_bin g_iadd) := ok_iadd (by decide +kernel) (by decide +kernel)
theorem o228_761 : OKp l S b Lx xs dC dI cA 228 761 (s_sld) := ok_sld (fun s h => h rfl) (by decide +kernel) (by decide +kernel)
theorem o228_762 : OKp l S b Lx xs dC dI cA 228 762 (s_aload 0) := ok_aload_n (k9 := 0) (by decide +kernel) rfl (by decide +kernel)
theorem o228_763 : OKp l S b Lx xs dC dI cA 228 763 (s_iload 4) := ok_iload (by decide +kernel) (by decide +kernel)
theorem o228_764 : OKp l S b Lx xs dC dI cA 228 764 (s_const (2)) := ok_iconst (n := 2) (by decide +kernel) (by decide) (by decide +kernel)
theorem o228_765 : OKp l S b Lx xs dC dI cA 228 765 (s_bin g_iadd) := ok_iadd (by decide +kernel) (by decide +kernel)
theorem o228_766 : OKp l S b Lx xs dC dI cA 228 766 (s_sld) := ok_sld (fun s h => h rfl) (by decide +kernel) (by decide +kernel)
theorem o228_767 : OKp l S b Lx xs dC dI cA 228 767 (s_aload 0) := ok_aload_n (k9 := 0) (by decide +kernel) rfl (by decide +kernel)
theorem o228_768 : OKp l S b Lx xs dC dI cA 228 768 (s_iload 4) := ok_iload (by decide +kernel) (by decide +kernel)
theorem o228_769 : OKp l S b Lx xs dC dI cA 228 769 (s_const (3)) := ok_iconst (n := 3) (by decide +kernel) (by decide) (by decide +kernel)
theorem o228_770 : OKp l S b Lx xs dC dI cA 228 770 (s_bin g_iadd) := ok_iadd (by decide +kernel) (by decide +kernel)
theorem o228_771 : OKp l S b Lx xs dC dI cA 228 771 (s_sld) := ok_sld (fun s h => h rfl) (by decide +kernel) (by decide +kernel)
theorem o228_772 : OKp l S b Lx xs dC dI cA 228 772 (s_aload 0) := ok_aload_n (k9 := 0) (by decide +kernel) rfl (by decide +kernel)
theorem o228_773 : OKp l S b Lx xs dC dI cA 228 773 (s_iload 4) := ok_iload (by decide +kernel) (by decide +kernel)
theorem o228_774 : OKp l S b Lx xs dC dI cA 228 774 (s_const (4)) := ok_iconst (n := 4) (by decide +kernel) (by decide) (by decide +kernel)
theorem o228_775 : OKp l S b Lx xs dC dI cA 228 775 (s_bin g_iadd) := ok_iadd (by decide +kernel) (by decide +kernel)
theorem o228_776 : OKp l S b Lx xs dC dI cA 228 776 (s_sld) := ok_sld (fun s h => h rfl) (by decide +kernel) (by decide +kernel)
theorem o228_777 : OKp l S b Lx xs dC dI cA 228 777 (s_invV (dv1 12 215 5) [] 4) := ok_invV (dv1_ok vc_RL_137_12 rfl (by decide) (hXX 215 (by decide))) (by decide +kernel) (by decide +kernel)
theorem o228_778 : OKp l S b Lx xs dC dI cA 228 778 (s_icmp (fun x y => x = y) 1007) := ok_icmp_eq (off := 318) (by decide +kernel) (by decide +kernel) (by decide +kernel)
theorem o228_779 : OKp l S b Lx xs dC dI cA 228 779 (s_const (0)) := ok_iconst (n := 0) (by decide +kernel) (by decide) (by decide +kernel)
theorem o228_780 : OKp l S b Lx xs dC dI cA 228 780 (s_zret) := ok_zret (by decide +kernel) rfl
theorem o228_781 : OKp l S b Lx xs dC dI cA 228 781 (s_aload 1) := ok_aload_n (k9 := 1) (by decide +kernel) rfl (by decide +kernel)
theorem o228_782 : OKp l S b Lx xs dC dI cA 228 782 (s_aload 0) := ok_aload_n (k9 := 0) (by decide +kernel) rfl (by decide +kernel)
theorem o228_783 : OKp l S b Lx xs dC dI cA 228 783 (s_iload 4) := ok_iload (by decide +kernel) (by decide +kernel)
theorem o228_784 : OKp l S b Lx xs dC dI cA 228 784 (s_const (1)) := ok_iconst (n := 1) (by decide +kernel) (by decide) (by decide +kernel)
theorem o228_785 : OKp l S b Lx xs dC dI cA 228 785 (s_bin g_iadd) := ok_iadd (by decide +kernel) (by decide +kernel)
theorem o228_786 : OKp l S b Lx xs dC dI cA 228 786 (s_sld) := ok_sld (fun s h => h rfl) (by decide +kernel) (by decide +kernel)
theorem o228_787 : OKp l S b Lx xs dC dI cA 228 787 (s_aload 0) := ok_aload_n (k9 := 0) (by decide +kernel) rfl (by decide +kernel)
theorem o228_788 : OKp l S b Lx xs dC dI cA 228 788 (s_iload 4) := ok_iload (by decide +kernel) (by decide +kernel)
theorem o228_789 : OKp l S b Lx xs dC dI cA 228 789 (s_const (2)) := ok_iconst (n := 2) (by decide +kernel) (by decide) (by decide +kernel)
theorem o228_790 : OKp l S b Lx xs dC dI cA 228 790 (s_bin g_iadd) := ok_iadd (by decide +kernel) (by decide +kernel)
theorem o228_791 : OKp l S b Lx xs dC dI cA 228 791 (s_sld) := ok_sld (fun s h => h rfl) (by decide +kernel) (by decide +kernel)
theorem o228_792 : OKp l S b Lx xs dC dI cA 228 792 (s_aload 0) := ok_aload_n (k9 := 0) (by decide +kernel) rfl (by decide +kernel)
theorem o228_793 : OKp l S b Lx xs dC dI cA 228 793 (s_iload 4) := ok_iload (by decide +kernel) (by decide +kernel)
theorem o228_794 : OKp l S b Lx xs dC dI cA 228 794 (s_const (3)) := ok_iconst (n := 3) (by decide +kernel) (by decide) (by decide +kernel)
theorem o228_795 : OKp l S b Lx xs dC dI cA 228 795 (s_bin g_iadd) := ok_iadd (by decide +kernel) (by decide +kernel)
theorem o228_796 : OKp l S b Lx xs dC dI cA 228 796 (s_sld) := ok_sld (fun s h => h rfl) (by decide +kernel) (by decide +kernel)
theorem o228_797 : OKp l S b Lx xs dC dI cA 228 797 (s_invV (dv1 11 106 5) [] 3) := ok_invV (dv1_ok vc_RL_138_11 rfl (by decide) (hXX 106 (by decide))) (by decide +kernel) (by decide +kernel)
theorem o228_798 : OKp l S b Lx xs dC dI cA 228 798 (s_aload 2) := ok_aload_n (k9 := 2) (by decide +kernel) rfl (by decide +kernel)
theorem o228_799 : OKp l S b Lx xs dC dI cA 228 799 (s_aload 0) := ok_aload_n (k9 := 0) (by decide +kernel) rfl (by decide +kernel)
theorem o228_800 : OKp l S b Lx xs dC dI cA 228 800 (s_iload 4) := ok_iload (by decide +kernel) (by decide +kernel)
theorem o228_801 : OKp l S b Lx xs dC dI cA 228 801 (s_const (1)) := ok_iconst (n := 1) (by decide +kernel) (by decide) (by decide +kernel)
theorem o228_802 : OKp l S b Lx xs dC dI cA 228 802 (s_bin g_iadd) := ok_iadd (by decide +kernel) (by decide +kernel)
theorem o228_803 : OKp l S b Lx xs dC dI cA 228 803 (s_sld) := ok_sld (fun s h => h rfl) (by decide +kernel) (by decide +kernel)
theorem o228_804 : OKp l S b Lx xs dC dI cA 228 804 (s_aload 0) := ok_aload_n (k9 := 0) (by decide +kernel) rfl (by decide +kernel)
theorem o228_805 : OKp l S b Lx xs dC dI cA 228 805 (s_iload 4) := ok_iload (by decide +kernel) (by decide +kernel)
theorem o228_806 : OKp l S b Lx xs dC dI cA 228 806 (s_const (2)) := ok_iconst (n := 2) (by decide +kernel) (by decide) (by decide +kernel)
theorem o228_807 : OKp l S b Lx xs dC dI cA 228 807 (s_bin g_iadd) := ok_iadd (by decide +kernel) (by decide +kernel)
theorem o228_808 : OKp l S b Lx xs dC dI cA 228 808 (s_sld) := ok_sld (fun s h => h rfl) (by decide +kernel) (by decide +kernel)
theorem o228_809 : OKp l S b Lx xs dC dI cA 228 809 (s_aload 0) := ok_aload_n (k9 := 0) (by decide +kernel) rfl (by decide +kernel)
theorem o228_810 : OKp l S b Lx xs dC dI cA 228 810 (s_iload 4) := ok_iload (by decide +kernel) (by decide +kernel)
theorem o228_811 : OKp l S b Lx xs dC dI cA 228 811 (s_const (3)) := ok_iconst (n := 3) (by decide +kernel) (by decide) (by decide +kernel)
theorem o228_812 : OKp l S b Lx xs dC dI cA 228 812 (s_bin g_iadd) := ok_iadd (by decide +kernel) (by decide +kernel)
theorem o228_813 : OKp l S b Lx xs dC dI cA 228 813 (s_sld) := ok_sld (fun s h => h rfl) (by decide +kernel) (by decide +kernel)
theorem o228_814 : OKp l S b Lx xs dC dI cA 228 814 (s_invV (dv1 12 216 5) [] 3) := ok_invV (dv1_ok vc_RL_141_12 rfl (by decide) (hXX 216 (by decide))) (by decide +kernel) (by decide +kernel)
theorem o228_815 : OKp l S b Lx xs dC dI cA 228 815 (s_icmp (fun x y => x = y) 1007) := ok_icmp_eq (off := 269) (by decide +kernel) (by decide +kernel) (by decide +kernel)
theorem o228_816 : OKp l S b Lx xs dC dI cA 228 816 (s_const (0)) := ok_iconst (n := 0) (by decide +kernel) (by decide) (by decide +kernel)
theorem o228_817 : OKp l S b Lx xs dC dI cA 228 817 (s_zret) := ok_zret (by decide +kernel) rfl
theorem o228_818 : OKp l S b Lx xs dC dI cA 228 818 (s_aload 1) := ok_aload_n (k9 := 1) (by decide +kernel) rfl (by decide +kernel)
theorem o228_819 : OKp l S b Lx xs dC dI cA 228 819 (s_aload 0) := ok_aload_n (k9 := 0) (by decide +kernel) rfl (by decide +kernel)
theorem o228_820 : OKp l S b Lx xs dC dI cA 228 820 (s_iload 4) := ok_iload (by decide +kernel) (by decide +kernel)
theorem o228_821 : OKp l S b Lx xs dC dI cA 228 821 (s_const (1)) := ok_iconst (n := 1) (by decide +kernel) (by decide) (by decide +kernel)
theorem o228_822 : OKp l S b Lx xs dC dI cA 228 822 (s_bin g_iadd) := ok_iadd (by decide +kernel) (by decide +kernel)
theorem o228_823 : OKp l S b Lx xs dC dI cA 228 823 (s_sld) := ok_sld (fun s h => h rfl) (by decide +kernel) (by decide +kernel)
theorem o228_824 : OKp l S b Lx xs dC dI cA 228 824 (s_aload 0) := ok_aload_n (k9 := 0) (by decide +kernel) rfl (by decide +kernel)
theorem o228_825 : OKp l S b Lx xs dC dI cA 228 825 (s_iload 4) := ok_iload (by decide +kernel) (by decide +kernel)
theorem o228_826 : OKp l S b Lx xs dC dI cA 228 826 (s_const (2)) := ok_iconst (n := 2) (by decide +kernel) (by decide) (by decide +kernel)
theorem o228_827 : OKp l S b Lx xs dC dI cA 228 827 (s_bin g_iadd) := ok_iadd (by decide +kernel) (by decide +kernel)
theorem o228_828 : OKp l S b Lx xs dC dI cA 228 828 (s_sld) := ok_sld (fun s h => h rfl) (by decide +kernel) (by decide +kernel)
theorem o228_829 : OKp l S b Lx xs dC dI cA 228 829 (s_aload 0) := ok_aload_n (k9 := 0) (by decide +kernel) rfl (by decide +kernel)
theorem o228_830 : OKp l S b Lx xs dC dI cA 228 830 (s_iload 4) := ok_iload (by decide +kernel) (by decide +kernel)
theorem o228_831 : OKp l S b Lx xs dC dI cA 228 831 (s_const (3)) := ok_iconst (n := 3) (by decide +kernel) (by decide) (by decide +kernel)
theorem o228_832 : OKp l S b Lx xs dC dI cA 228 832 (s_bin g_iadd) := ok_iadd (by decide +kernel) (by decide +kernel)
theorem o228_833 : OKp l S b Lx xs dC dI cA 228 833 (s_sld) := ok_sld (fun s h => h rfl) (by decide +kernel) (by decide +kernel)
theorem o228_834 : OKp l S b Lx xs dC dI cA 228 834 (s_invV (dv1 11 107 6) [] 3) := ok_invV (dv1_ok vc_RL_142_11 rfl (by decide) (hXX 107 (by decide))) (by decide +kernel) (by decide +kernel)
theorem o228_835 : OKp l S b Lx xs dC dI cA 228 835 (s_aload 2) := ok_aload_n (k9 := 2) (by decide +kernel) rfl (by decide +kernel)
theorem o228_836 : OKp l S b Lx xs dC dI cA 228 836 (s_aload 0) := ok_aload_n (k9 := 0) (by decide +kernel) rfl (by decide +kernel)
theorem o228_837 : OKp l S b Lx xs dC dI cA 228 837 (s_iload 4) := ok_iload (by decide +kernel) (by decide +kernel)
theorem o228_838 : OKp l S b Lx xs dC dI cA 228 838 (s_const (1)) := ok_iconst (n := 1) (by decide +kernel) (by decide) (by decide +kernel)
theorem o228_839 : OKp l S b Lx xs dC dI cA 228 839 (s_bin g_iadd) := ok_iadd (by decide +kernel) (by decide +kernel)
theorem o228_840 : OKp l S b Lx xs dC dI cA 228 840 (s_sld) := ok_sld (fun s h => h rfl) (by decide +kernel) (by decide +kernel)
theorem o228_841 : OKp l S b Lx xs dC dI cA 228 841 (s_aload 0) := ok_aload_n (k9 := 0) (by decide +kernel) rfl (by decide +kernel)
theorem o228_842 : OKp l S b Lx xs dC dI cA 228 842 (s_iload 4) := ok_iload (by decide +kernel) (by decide +kernel)
theorem o228_843 : OKp l S b Lx xs dC dI cA 228 843 (s_const (2)) := ok_iconst (n := 2) (by decide +kernel) (by decide) (by decide +kernel)
theorem o228_844 : OKp l S b Lx xs dC dI cA 228 844 (s_bin g_iadd) := ok_iadd (by decide +kernel) (by decide +kernel)
theorem o228_845 : OKp l S b Lx xs dC dI cA 228 845 (s_sld) := ok_sld (fun s h => h rfl) (by decide +kernel) (by decide +kernel)
theorem o228_846 : OKp l S b Lx xs dC dI cA 228 846 (s_aload 0) := ok_aload_n (k9 := 0) (by decide +kernel) rfl (by decide +kernel)
theorem o228_847 : OKp l S b Lx xs dC dI cA 228 847 (s_iload 4) := ok_iload (by decide +kernel) (by decide +kernel)
theorem o228_848 : OKp l S b Lx xs dC dI cA 228 848 (s_const (3)) := ok_iconst (n := 3) (by decide +kernel) (by decide) (by decide +kernel)
theorem o228_849 : OKp l S b Lx xs dC dI cA 228 849 (s_bin g_iadd) := ok_iadd (by decide +kernel) (by decide +kernel)
theorem o228_850 : OKp l S b Lx xs dC dI cA 228 850 (s_sld) := ok_sld (fun s h => h rfl) (by decide +kernel) (by decide +kernel)
theorem o228_851 : OKp l S b Lx xs dC dI cA 228 851 (s_invV (dv1 12 217 5) [] 3) := ok_invV (dv1_ok vc_RL_145_12 rfl (by decide) (hXX 217 (by decide))) (by decide +kernel) (by decide +kernel)
theorem o228_852 : OKp l S b Lx xs dC dI cA 228 852 (s_icmp (fun x y => x = y) 1007) := ok_icmp_eq (off := 220) (by decide +kernel) (by decide +kernel) (by decide +kernel)
theorem o228_853 : OKp l S b Lx xs dC dI cA 228 853 (s_const (0)) := ok_iconst (n := 0) (by decide +kernel) (by decide) (by decide +kernel)
theorem o228_854 : OKp l S b Lx xs dC dI cA 228 854 (s_zret) := ok_zret (by decide +kernel) rfl
theorem o228_855 : OKp l S b Lx xs dC dI cA 228 855 (s_aload 1) := ok_aload_n (k9 := 1) (by decide +kernel) rfl (by decide +kernel)
theorem o228_856 : OKp l S b Lx xs dC dI cA 228 856 (s_aload 0) := ok_aload_n (k9 := 0) (by decide +kernel) rfl (by decide +kernel)
theorem o228_857 : OKp l S b Lx xs dC dI cA 228 857 (s_iload 4) := ok_iload (by decide +kernel) (by decide +kernel)
theorem o228_858 : OKp l S b Lx xs dC dI cA 228 858 (s_const (1)) := ok_iconst (n := 1) (by decide +kernel) (by decide) (by decide +kernel)
theorem o228_859 : OKp l S b Lx xs dC dI cA 228 859 (s_bin g_iadd) := ok_iadd (by decide +kernel) (by decide +kernel)
theorem o228_860 : OKp l S b Lx xs dC dI cA 228 860 (s_sld) := ok_sld (fun s h => h rfl) (by decide +kernel) (by decide +kernel)
theorem o228_861 : OKp l S b Lx xs dC dI cA 228 861 (s_aload 0) := ok_aload_n (k9 := 0) (by decide +kernel) rfl (by decide +kernel)
theorem o228_862 : OKp l S b Lx xs dC dI cA 228 862 (s_iload 4) := ok_iload (by decide +kernel) (by decide +kernel)
theorem o228_863 : OKp l S b Lx xs dC dI cA 228 863 (s_const (2)) := ok_iconst (n := 2) (by decide +kernel) (by decide) (by decide +kernel)
theorem o228_864 : OKp l S b Lx xs dC dI cA 228 864 (s_bin g_iadd) := ok_iadd (by decide +kernel) (by decide +kernel)
theorem o228_865 : OKp l S b Lx xs dC dI cA 228 865 (s_sld) := ok_sld (fun s h => h rfl) (by decide +kernel) (by decide +kernel)
theorem o228_866 : OKp l S b Lx xs dC dI cA 228 866 (s_aload 3) := ok_aload_n (k9 := 3) (by decide +kernel) rfl (by decide +kernel)
theorem o228_867 : OKp l S b Lx xs dC dI cA 228 867 (s_invS 227 4 5) := ok_invSW (by decide +kernel) rfl (by decide) (hXX 227 (by decide)) w_899 w_900 w_56 c_227 (by decide +kernel) (by decide +kernel) (by decide +kernel)
theorem o228_868 : OKp l S b Lx xs dC dI cA 228 868 (s_istore 5) := ok_istore (by decide +kernel) (by decide +kernel)
theorem o228_869 : OKp l S b Lx xs dC dI cA 228 869 (s_aload 2) := ok_aload_n (k9 := 2) (by decide +kernel) rfl (by decide +kernel)
theorem o228_870 : OKp l S b Lx xs dC dI cA 228 870 (s_aload 0) := ok_aload_n (k9 := 0) (by decide +kernel) rfl (by decide +kernel)
theorem o228_871 : OKp l S b Lx xs dC dI cA 228 871 (s_iload 4) := ok_iload (by decide +kernel) (by decide +kernel)
theorem o228_872 : OKp l S b Lx xs dC dI cA 228 872 (s_const (1)) := ok_iconst (n := 1) (by decide +kernel) (by decide) (by decide +kernel)
theorem o228_873 : OKp l S b Lx xs dC dI cA 228 873 (s_bin g_iadd) := ok_iadd (by decide +kernel) (by decide +kernel)
theorem o228_874 : OKp l S b Lx xs dC dI cA 228 874 (s_sld) := ok_sld (fun s h => h rfl) (by decide +kernel) (by decide +kernel)
theorem o228_875 : OKp l S b Lx xs dC dI cA 228 875 (s_aload 0) := ok_aload_n (k9 := 0) (by decide +kernel) rfl (by decide +kernel)
theorem o228_876 : OKp l S b Lx xs dC dI cA 228 876 (s_iload 4) := ok_iload (by decide +kernel) (by decide +kernel)
theorem o228_877 : OKp l S b Lx xs dC dI cA 228 877 (s_const (2)) := ok_iconst (n := 2) (by decide +kernel) (by decide) (by decide +kernel)
theorem o228_878 : OKp l S b Lx xs dC dI cA 228 878 (s_bin g_iadd) := ok_iadd (by decide +kernel) (by decide +kernel)
theorem o228_879 : OKp l S b Lx xs dC dI cA 228 879 (s_sld) := ok_sld (fun s h => h rfl) (by decide +kernel) (by decide +kernel)
theorem o228_880 : OKp l S b Lx xs dC dI cA 228 880 (s_invV (dv1 12 218 3) [] 2) := ok_invV (dv1_ok vc_RL_151_12 rfl (by decide) (hXX 218 (by decide))) (by decide +kernel) (by decide +kernel)
theorem o228_881 : OKp l S b Lx xs dC dI cA 228 881 (s_lstore 6) := ok_lstore (by decide +kernel) (by decide +kernel)
theorem o228_882 : OKp l S b Lx xs dC dI cA 228 882 (s_aload 2) := ok_aload_n (k9 := 2) (by decide +kernel) rfl (by decide +kernel)
theorem o228_883 : OKp l S b Lx xs dC dI cA 228 883 (s_invV (dv1 12 138 1) [] 0) := ok_invV (dv1_ok vc_RL_152_12 rfl (by decide) (hXX 138 (by decide))) (by decide +kernel) (by decide +kernel)
theorem o228_884 : OKp l S b Lx xs dC dI cA 228 884 (s_iload 5) := ok_iload (by decide +kernel) (by decide +kernel)
theorem o228_885 : OKp l S b Lx xs dC dI cA 228 885 (s_icmp (fun x y => x = y) 888) := ok_icmp_eq (off := 5) (by decide +kernel) (by decide +kernel) (by decide +kernel)
theorem o228_886 : OKp l S b Lx xs dC dI cA 228 886 (s_const (0)) := ok_iconst (n := 0) (by decide +kernel) (by decide) (by decide +kernel)
theorem o228_887 : OKp l S b Lx xs dC dI cA 228 887 (s_zret) := ok_zret (by decide +kernel) rfl
theorem o228_888 : OKp l S b Lx xs dC dI cA 228 888 (s_iload 5) := ok_iload (by decide +kernel) (by decide +kernel)
theorem o228_889 : OKp l S b Lx xs dC dI cA 228 889 (s_if (fun x => x ≠ 0) 898) := ok_if_ne (off := 14) (by decide +kernel) (by decide +kernel) (by decide +kernel)
theorem o228_890 : OKp l S b Lx xs dC dI cA 228 890 (s_aload 3) := ok_aload_n (k9 := 3) (by decide +kernel) rfl (by decide +kernel)
theorem o228_891 : OKp l S b Lx xs dC dI cA 228 891 (s_const (0)) := ok_iconst (n := 0) (by decide +kernel) (by decide) (by decide +kernel)
theorem o228_892 : OKp l S b Lx xs dC dI cA 228 892 (s_lald) := ok_lald (by decide +kernel) (by decide +kernel)
theorem o228_893 : OKp l S b Lx xs dC dI cA 228 893 (s_lload 6) := ok_lload (by decide +kernel) (by decide +kernel)
theorem o228_894 : OKp l S b Lx xs dC dI cA 228 894 (s_lcmp) := ok_lcmp (by decide +kernel) (by decide +kernel)
theorem o228_895 : OKp l S b Lx xs dC dI cA 228 895 (s_if (fun x => x = 0) 898) := ok_if_eq (off := 5) (by decide +kernel) (by decide +kernel) (by decide +kernel)
theorem o228_896 : OKp l S b Lx xs dC dI cA 228 896 (s_const (0)) := ok_iconst (n := 0) (by decide +kernel) (by decide) (by decide +kernel)
theorem o228_897 : OKp l S b Lx xs dC dI cA 228 897 (s_zret) := ok_zret (by decide +kernel) rfl
theorem o228_898 : OKp l S b Lx xs dC dI cA 228 898 (s_goto 1007) := ok_goto (off := 151) (by decide +kernel) (by decide +kernel)
theorem o228_899 : OKp l S b Lx xs dC dI cA 228 899 (s_aload 1) := ok_aload_n (k9 := 1) (by decide +kernel) rfl (by decide +kernel)
theorem o228_900 : OKp l S b Lx xs dC dI cA 228 900 (s_aload 0) := ok_aload_n (k9 := 0) (by decide +kernel) rfl (by decide +kernel)
theorem o228_901 : OKp l S b Lx xs dC dI cA 228 901 (s_iload 4) := ok_iload (by decide +kernel) (by decide +kernel)
theorem o228_902 : OKp l S b Lx xs dC dI cA 228 902 (s_const (1)) := ok_iconst (n := 1) (by decide +kernel) (by decide) (by decide +kernel)
theorem o228_903 : OKp l S b Lx xs dC dI cA 228 903 (s_bin g_iadd) := ok_iadd (by decide +kernel) (by decide +kernel)
theorem o228_904 : OKp l S b Lx xs dC dI cA 228 904 (s_sld) := ok_sld (fun s h => h rfl) (by decide +kernel) (by decide +kernel)
theorem o228_905 : OKp l S b Lx xs dC dI cA 228 905 (s_aload 0) := ok_aload_n (k9 := 0) (by decide +kernel) rfl (by decide +kernel)
theorem o228_906 : OKp l S b Lx xs dC dI cA 228 906 (s_iload 4) := ok_iload (by decide +kernel) (by decide +kernel)
theorem o228_907 : OKp l S b Lx xs dC dI cA 228 907 (s_const (2)) := ok_iconst (n := 2) (by decide +kernel) (by decide) (by decide +kernel)
theorem o228_908 : OKp l S b Lx xs dC dI cA 228 908 (s_bin g_iadd) := ok_iadd (by decide +kernel) (by decide +kernel)
theorem o228_909 : OKp l S b Lx xs dC dI cA 228 909 (s_sld) := ok_sld (fun s h => h rfl) (by decide +kernel) (by decide +kernel)
theorem o228_910 : OKp l S b Lx xs dC dI cA 228 910 (s_aload 0) := ok_aload_n (k9 := 0) (by decide +kernel) rfl (by decide +kernel)
theorem o228_911 : OKp l S b Lx xs dC dI cA 228 911 (s_iload 4) := ok_iload (by decide +kernel) (by decide +kernel)
theorem o228_912 : OKp l S b Lx xs dC dI cA 228 912 (s_const (3)) := ok_iconst (n := 3) (by decide +kernel) (by decide) (by decide +kernel)
theorem o228_913 : OKp l S b Lx xs dC dI cA 228 913 (s_bin g_iadd) := ok_iadd (by decide +kernel) (by decide +kernel)
theorem o228_914 : OKp l S b Lx xs dC dI cA 228 914 (s_sld) := ok_sld (fun s h => h rfl) (by decide +kernel) (by decide +kernel)
theorem o228_915 : OKp l S b Lx xs dC dI cA 228 915 (s_aload 0) := ok_aload_n (k9 := 0) (by decide +kernel) rfl (by decide +kernel)
theorem o228_916 : OKp l S b Lx xs dC dI cA 228 916 (s_iload 4) := ok_iload (by decide +kernel) (by decide +kernel)
theorem o228_917 : OKp l S b Lx xs dC dI cA 228 917 (s_const (4)) := ok_iconst (n := 4) (by decide +kernel) (by decide) (by decide +kernel)
theorem o228_918 : OKp l S b Lx xs dC dI cA 228 918 (s_bin g_iadd) := ok_iadd (by decide +kernel) (by decide +kernel)
theorem o228_919 : OKp l S b Lx xs dC dI cA 228 919 (s_sld) := ok_sld (fun s h => h rfl) (by decide +kernel) (by decide +kernel)
theorem o228_920 : OKp l S b Lx xs dC dI cA 228 920 (s_aload 0) := ok_aload_n (k9 := 0) (by decide +kernel) rfl (by decide +kernel)
theorem o228_921 : OKp l S b Lx xs dC dI cA 228 921 (s_iload 4) := ok_iload (by decide +kernel) (by decide +kernel)
theorem o228_922 : OKp l S b Lx xs dC dI cA 228 922 (s_const (5)) := ok_iconst (n := 5) (by decide +kernel) (by decide) (by decide +kernel)
theorem o228_923 : OKp l S b Lx xs dC dI cA 228 923 (s_bin g_iadd) := ok_iadd (by decide +kernel) (by decide +kernel)
theorem o228_924 : OKp l S b Lx xs dC dI cA 228 924 (s_sld) := ok_sld (fun s h => h rfl) (by decide +kernel) (by decide +kernel)
theorem o228_925 : OKp l S b Lx xs dC dI cA 228 925 (s_invV (dv1 11 109 8) [] 5) := ok_invV (dv1_ok vc_RL_155_11 rfl (by decide) (hXX 109 (by decide))) (by decide +kernel) (by decide +kernel)
theorem o228_926 : OKp l S b Lx xs dC dI cA 228 926 (s_aload 2) := ok_aload_n (k9 := 2) (by decide +kernel) rfl (by decide +kernel)
theorem o228_927 : OKp l S b Lx xs dC dI cA 228 927 (s_aload 0) := ok_aload_n (k9 := 0) (by decide +kernel) rfl (by decide +kernel)
theorem o228_928 : OKp l S b Lx xs dC dI cA 228 928 (s_iload 4) := ok_iload (by decide +kernel) (by decide +kernel)
theorem o228_929 : OKp l S b Lx xs dC dI cA 228 929 (s_const (1)) := ok_iconst (n := 1) (by decide +kernel) (by decide) (by decide +kernel)
theorem o228_930 : OKp l S b Lx xs dC dI cA 228 930 (s_bin g_iadd) := ok_iadd (by decide +kernel) (by decide +kernel)
theorem o228_931 : OKp l S b Lx xs dC dI cA 228 931 (s_sld) := ok_sld (fun s h => h rfl) (by decide +kernel) (by decide +kernel)
theorem o228_932 : OKp l S b Lx xs dC dI cA 228 932 (s_aload 0) := ok_aload_n (k9 := 0) (by decide +kernel) rfl (by decide +kernel)
theorem o228_933 : OKp l S b Lx xs dC dI cA 228 933 (s_iload 4) := ok_iload (by decide +kernel) (by decide +kernel)
theorem o228_934 : OKp l S b Lx xs dC dI cA 228 934 (s_const (2)) := ok_iconst (n := 2) (by decide +kernel) (by decide) (by decide +kernel)
theorem o228_935 : OKp l S b Lx xs dC dI cA 228 935 (s_bin g_iadd) := ok_iadd (by decide +kernel) (by decide +kernel)
theorem o228_936 : OKp l S b Lx xs dC dI cA 228 936 (s_sld) := ok_sld (fun s h => h rfl) (by decide +kernel) (by decide +kernel)
theorem o228_937 : OKp l S b Lx xs dC dI cA 228 937 (s_aload 0) := ok_aload_n (k9 := 0) (by decide +kernel) rfl (by decide +kernel)
theorem o228_938 : OKp l S b Lx xs dC dI cA 228 938 (s_iload 4) := ok_iload (by decide +kernel) (by decide +kernel)
theorem o228_939 : OKp l S b Lx xs dC dI cA 228 939 (s_const (3)) := ok_iconst (n := 3) (by decide +kernel) (by decide) (by decide +kernel)
theorem o228_940 : OKp l S b Lx xs dC dI cA 228 940 (s_bin g_iadd) := ok_iadd (by decide +kernel) (by decide +kernel)
theorem o228_941 : OKp l S b Lx xs dC dI cA 228 941 (s_sld) := ok_sld (fun s h => h rfl) (by decide +kernel) (by decide +kernel)
theorem o228_942 : OKp l S b Lx xs dC dI cA 228 942 (s_aload 0) := ok_aload_n (k9 := 0) (by decide +kernel) rfl (by decide +kernel)
theorem o228_943 : OKp l S b Lx xs dC dI cA 228 943 (s_iload 4) := ok_iload (by decide +kernel) (by decide +kernel)
theorem o228_944 : OKp l S b Lx xs dC dI cA 228 944 (s_const (4)) := ok_iconst (n := 4) (by decide +kernel) (by decide) (by decide +kernel)
theorem o228_945 : OKp l S b Lx xs dC dI cA 228 945 (s_bin g_iadd) := ok_iadd (by decide +kernel) (by decide +kernel)
theorem o228_946 : OKp l S b Lx xs dC dI cA 228 946 (s_sld) := ok_sld (fun s h => h rfl) (by decide +kernel) (by decide +kernel)
theorem o228_947 : OKp l S b Lx xs dC dI cA 228 947 (s_aload 0) := ok_aload_n (k9 := 0) (by decide +kernel) rfl (by decide +kernel)
theorem o228_948 : OKp l S b Lx xs dC dI cA 228 948 (s_iload 4) := ok_iload (by decide +kernel) (by decide +kernel)
theorem o228_949 : OKp l S b Lx xs dC dI cA 228 949 (s_const (5)) := ok_iconst (n := 5) (by decide +kernel) (by decide) (by decide +kernel)
theorem o228_950 : OKp l S b Lx xs dC dI cA 228 950 (s_bin g_iadd) := ok_iadd (by decide +kernel) (by decide +kernel)
theorem o228_951 : OKp l S b Lx xs dC dI cA 228 951 (s_sld) := ok_sld (fun s h => h rfl) (by decide +kernel) (by decide +kernel)
theorem o228_952 : OKp l S b Lx xs dC dI cA 228 952 (s_invV (dv1 12 219 8) [] 5) := ok_invV (dv1_ok vc_RL_159_12 rfl (by decide) (hXX 219 (by decide))) (by decide +kernel) (by decide +kernel)
theorem o228_953 : OKp l S b Lx xs dC dI cA 228 953 (s_icmp (fun x y => x = y) 1007) := ok_icmp_eq (off := 80) (by decide +kernel) (by decide +kernel) (by decide +kernel)
theorem o228_954 : OKp l S b Lx xs dC dI cA 228 954 (s_const (0)) := ok_iconst (n := 0) (by decide +kernel) (by decide) (by decide +kernel)
theorem o228_955 : OKp l S b Lx xs dC dI cA 228 955 (s_zret) := ok_zret (by decide +kernel) rfl
theorem o228_956 : OKp l S b Lx xs dC dI cA 228 956 (s_aload 1) := ok_aload_n (k9 := 1) (by decide +kernel) rfl (by decide +kernel)
theorem o228_957 : OKp l S b Lx xs dC dI cA 228 957 (s_aload 0) := ok_aload_n (k9 := 0) (by decide +kernel) rfl (by decide +kernel)
theorem o228_958 : OKp l S b Lx xs dC dI cA 228 958 (s_iload 4) := ok_iload (by decide +kernel) (by decide +kernel)
theorem o228_959 : OKp l S b Lx xs dC dI cA 228 959 (s_const (1)) := ok_iconst (n := 1) (by decide +kernel) (by decide) (by decide +kernel)
theorem o228_960 : OKp l S b Lx xs dC dI cA 228 960 (s_bin g_iadd) := ok_iadd (by decide +kernel) (by decide +kernel)
theorem o228_961 : OKp l S b Lx xs dC dI cA 228 961 (s_sld) := ok_sld (fun s h => h rfl) (by decide +kernel) (by decide +kernel)
theorem o228_962 : OKp l S b Lx xs dC dI cA 228 962 (s_invV (dv1 11 110 4) [] 1) := ok_invV (dv1_ok vc_RL_160_11 rfl (by decide) (hXX 110 (by decide))) (by decide +kernel) (by decide +kernel)
theorem o228_963 : OKp l S b Lx xs dC dI cA 228 963 (s_aload 2) := ok_aload_n (k9 := 2) (by decide +kernel) rfl (by decide +kernel)
theorem o228_964 : OKp l S b Lx xs dC dI cA 228 964 (s_aload 0) := ok_aload_n (k9 := 0) (by decide +kernel) rfl (by decide +kernel)
theorem o228_965 : OKp l S b Lx xs dC dI cA 228 965 (s_iload 4) := ok_iload (by decide +kernel) (by decide +kernel)
theorem o228_966 : OKp l S b Lx xs dC dI cA 228 966 (s_const (1)) := ok_iconst (n := 1) (by decide +kernel) (by decide) (by decide +kernel)
theorem o228_967 : OKp l S b Lx xs dC dI cA 228 967 (s_bin g_iadd) := ok_iadd (by decide +kernel) (by decide +kernel)
theorem o228_968 : OKp l S b Lx xs dC dI cA 228 968 (s_sld) := ok_sld (fun s h => h rfl) (by decide +kernel) (by decide +kernel)
theorem o228_969 : OKp l S b Lx xs dC dI cA 228 969 (s_invV (dv1 12 221 3) [] 1) := ok_invV (dv1_ok vc_RL_163_12 rfl (by decide) (hXX 221 (by decide))) (by decide +kernel) (by decide +kernel)
theorem o228_970 : OKp l S b Lx xs dC dI cA 228 970 (s_icmp (fun x y => x = y) 1007) := ok_icmp_eq (off := 55) (by decide +kernel) (by decide +kernel) (by decide +kernel)
theorem o228_971 : OKp l S b Lx xs dC dI cA 228 971 (s_const (0)) := ok_iconst (n := 0) (by decide +kernel) (by decide) (by decide +kernel)
theorem o228_972 : OKp l S b Lx xs dC dI cA 228 972 (s_zret) := ok_zret (by decide +kernel) rfl
theorem o228_973 : OKp l S b Lx xs dC dI cA 228 973 (s_aload 1) := ok_aload_n (k9 := 1) (by decide +kernel) rfl (by decide +kernel)
theorem o228_974 : OKp l S b Lx xs dC dI cA 228 974 (s_aload 0) := ok_aload_n (k9 := 0) (by decide +kernel) rfl (by decide +kernel)
theorem o228_975 : OKp l S b Lx xs dC dI cA 228 975 (s_iload 4) := ok_iload (by decide +kernel) (by decide +kernel)
theorem o228_976 : OKp l S b Lx xs dC dI cA 228 976 (s_const (1)) := ok_iconst (n := 1) (by decide +kernel) (by decide) (by decide +kernel)
theorem o228_977 : OKp l S b Lx xs dC dI cA 228 977 (s_bin g_iadd) := ok_iadd (by decide +kernel) (by decide +kernel)
theorem o228_978 : OKp l S b Lx xs dC dI cA 228 978 (s_sld) := ok_sld (fun s h => h rfl) (by decide +kernel) (by decide +kernel)
theorem o228_979 : OKp l S b Lx xs dC dI cA 228 979 (s_invV (dv1 11 111 4) [] 1) := ok_invV (dv1_ok vc_RL_164_11 rfl (by decide) (hXX 111 (by decide))) (by decide +kernel) (by decide +kernel)
theorem o228_980 : OKp l S b Lx xs dC dI cA 228 980 (s_aload 2) := ok_aload_n (k9 := 2) (by decide +kernel) rfl (by decide +kernel)
theorem o228_981 : OKp l S b Lx xs dC dI cA 228 981 (s_aload 0) := ok_aload_n (k9 := 0) (by decide +kernel) rfl (by decide +kernel)
theorem o228_982 : OKp l S b Lx xs dC dI cA 228 982 (s_iload 4) := ok_iload (by decide +kernel) (by decide +kernel)
theorem o228_983 : OKp l S b Lx xs dC dI cA 228 983 (s_const (1)) := ok_iconst (n := 1) (by decide +kernel) (by decide) (by decide +kernel)
theorem o228_984 : OKp l S b Lx xs dC dI cA 228 984 (s_bin g_iadd) := ok_iadd (by decide +kernel) (by decide +kernel)
theorem o228_985 : OKp l S b Lx xs dC dI cA 228 985 (s_sld) := ok_sld (fun s h => h rfl) (by decide +kernel) (by decide +kernel)
theorem o228_986 : OKp l S b Lx xs dC dI cA 228 986 (s_invV (dv1 12 222 3) [] 1) := ok_invV (dv1_ok vc_RL_167_12 rfl (by decide) (hXX 222 (by decide))) (by decide +kernel) (by decide +kernel)
theorem o228_987 : OKp l S b Lx xs dC dI cA 228 987 (s_icmp (fun x y => x = y) 1007) := ok_icmp_eq (off := 30) (by decide +kernel) (by decide +kernel) (by decide +kernel)
theorem o228_988 : OKp l S b Lx xs dC dI cA 228 988 (s_const (0)) := ok_iconst (n := 0) (by decide +kernel) (by decide) (by decide +kernel)
theorem o228_989 : OKp l S b Lx xs dC dI cA 228 989 (s_zret) := ok_zret (by decide +kernel) rfl
theorem o228_990 : OKp l S b Lx xs dC dI cA 228 990 (s_aload 1) := ok_aload_n (k9 := 1) (by decide +kernel) rfl (by decide +kernel)
theorem o228_991 : OKp l S b Lx xs dC dI cA 228 991 (s_aload 0) := ok_aload_n (k9 := 0) (by decide +kernel) rfl (by decide +kernel)
theorem o228_992 : OKp l S b Lx xs dC dI cA 228 992 (s_iload 4) := ok_iload (by decide +kernel) (by decide +kernel)
theorem o228_993 : OKp l S b Lx xs dC dI cA 228 993 (s_const (1)) := ok_iconst (n := 1) (by decide +kernel) (by decide) (by decide +kernel)
theorem o228_994 : OKp l S b Lx xs dC dI cA 228 994 (s_bin g_iadd) := ok_iadd (by decide +kernel) (by decide +kernel)
theorem o228_995 : OKp l S b Lx xs dC dI cA 228 995 (s_sld) := ok_sld (fun s h => h rfl) (by decide +kernel) (by decide +kernel)
theorem o228_996 : OKp l S b Lx xs dC dI cA 228 996 (s_invU (fun t => t == 11) 112 1 5) := ok_invVW (t := 11) (C := RX11) (T := TX11) (N := 9) rfl (fun _ h => eq_of_beq h) (by decide +kernel) rfl (by decide) (hXX 112 (by decide)) w_793 w_794 w_795 w_57 c_112 ⟨rfl, by decide, by decide, by decide +kernel⟩ (by decide +kernel) (by decide +kernel)
theorem o228_997 : OKp l S b Lx xs dC dI cA 228 997 (s_aload 2) := ok_aload_n (k9 := 2) (by decide +kernel) rfl (by decide +kernel)
theorem o228_998 : OKp l S b Lx xs dC dI cA 228 998 (s_aload 0) := ok_aload_n (k9 := 0) (by decide +kernel) rfl (by decide +kernel)
theorem o228_999 : OKp l S b Lx xs dC dI cA 228 999 (s_iload 4) := ok_iload (by decide +kernel) (by decide +kernel)
theorem o228_1000 : OKp l S b Lx xs dC dI cA 228 1000 (s_const (1)) := ok_iconst (n := 1) (by decide +kernel) (by decide) (by decide +kernel)
theorem o228_1001 : OKp l S b Lx xs dC dI cA 228 1001 (s_bin g_iadd) := ok_iadd (by decide +kernel) (by decide +kernel)
theorem o228_1002 : OKp l S b Lx xs dC dI cA 228 1002 (s_sld) := ok_sld (fun s h => h rfl) (by decide +kernel) (by decide +kernel)
theorem o228_1003 : OKp l S b Lx xs dC dI cA 228 1003 (s_invV (dv1 12 223 5) [] 1) := ok_invV (dv1_ok vc_RL_171_12 rfl (by decide) (hXX 223 (by decide))) (by decide +kernel) (by decide +kernel)
theorem o228_1004 : OKp l S b Lx xs dC dI cA 228 1004 (s_icmp (fun x y => x = y) 1007) := ok_icmp_eq (off := 5) (by decide +kernel) (by decide +kernel) (by decide +kernel)
theorem o228_1005 : OKp l S b Lx xs dC dI cA 228 1005 (s_const (0)) := ok_iconst (n := 0) (by decide +kernel) (by decide) (by decide +kernel)
theorem o228_1006 : OKp l S b Lx xs dC dI cA 228 1006 (s_zret) := ok_zret (by decide +kernel) rfl
theorem o228_1007 : OKp l S b Lx xs dC dI cA 228 1007 (s_iinc 4 (6)) := ok_iinc (n := 6) (by decide +kernel) (by decide) (by decide +kernel)
theorem o228_1008 : OKp l S b Lx xs dC dI cA 228 1008 (s_goto 13) := ok_goto (off := -1525) (by decide +kernel) (by decide +kernel)
theorem o228_1009 : OKp l S b Lx xs dC dI cA 228 1009 (s_const (1)) := ok_iconst (n := 1) (by decide +kernel) (by decide) (by decide +kernel)
theorem o228_1010 : OKp l S b Lx xs dC dI cA 228 1010 (s_zret) := ok_zret (by decide +kernel) rfl
theorem a228_0 (hl9 : l.stackTraces = false) : sm_all (OKp l S b Lx xs dC dI cA 228) 0 sc_228_0 := ⟨o228_0, o228_1, o228_2, o228_3, o228_4, o228_5, o228_6, o228_7, o228_8, o228_9, o228_10, o228_11, o228_12, o228_13, o228_14, o228_15, o228_16, o228_17, o228_18, o228_19, o228_20, o228_21, o228_22, o228_23, o228_24, o228_25, o228_26, o228_27, o228_28, o228_29, o228_30, o228_31, o228_32, o228_33, o228_34, o228_35, o228_36, o228_37, o228_38, o228_39, o228_40, o228_41, o228_42, o228_43, o228_44, o228_45, o228_46, o228_47, o228_48, o228_49, o228_50, o228_51, o228_52, o228_53, o228_54, o228_55, o228_56, o228_57, o228_58, o228_59, trivial⟩
theorem a228_1 (hl9 : l.stackTraces = false) : sm_all (OKp l S b Lx xs dC dI cA 228) 60 sc_228_1 := ⟨o228_60, o228_61, o228_62, o228_63, o228_64, o228_65, o228_66, o228_67, o228_68, o228_69, o228_70, o228_71, o228_72, o228_73, o228_74, o228_75, o228_76, o228_77, o228_78, o228_79, o228_80, o228_81, o228_82, o228_83, o228_84, o228_85, o228_86, o228_87, o228_88, o228_89, o228_90, o228_91, o228_92, o228_93, o228_94, o228_95, o228_96, o228_97, o228_98, o228_99, o228_100, o228_101, o228_102, o228_103, o228_104, o228_105, o228_106, o228_107, o228_108, o228_109, o228_110, o228_111, o228_112, o228_113, o228_114, o228_115, o228_116, o228_117, o228_118, o228_119, trivial⟩
theorem a228_2 (hl9 : l.stackTraces = false) : sm_all (OKp l S b Lx xs dC dI cA 228) 120 sc_228_2 := ⟨o228_120, o228_121, o228_122, o228_123, o228_124, o228_125, o228_126, o228_127, o228_128, o228_129, o228_130, o228_131, o228_132, o228_133, o228_134, o228_135, o228_136, o228_137, o228_138, o228_139, o228_140, o228_141, o228_142, o228_143, o228_144, o228_145, o228_146, o228_147, o228_148, o228_149, o228_150, o228_151, o228_152, o228_153, o228_154, o228_155, o228_156, o228_157, o228_158, o228_159, o228_160, o228_161, o228_162, o228_163, o228_164, o228_165, o228_166, o228_167, o228_168, o228_169, o228_170, o228_171, o228_172, o228_173, o228_174, o228_175, o228_176, o228_177, o228_178, o228_179, trivial⟩
theorem a228_3 (hl9 : l.stackTraces = false) : sm_all (OKp l S b Lx xs dC dI cA 228) 180 sc_228_3 := ⟨o228_180, o228_181, o228_182, o228_183, o228_184, o228_185, o228_186, o228_187, o228_188, o228_189, o228_190, o228_191, o228_192, o228_193, o228_194, o228_195, o228_196, o228_197, o228_198, o228_199, o228_200, o228_201, o228_202, o228_203, o228_204, o228_205, o228_206, o228_207, o228_208, o228_209, o228_210, o228_211, o228_212, o228_213, o228_214, o228_215, o228_216, o228_217, o228_218, o228_219, o228_220, o228_221, o228_222, o228_223, o228_224, o228_225, o228_226, o228_227, o228_228, o228_229, o228_230, o228_231, o228_232, o228_233, o228_234, o228_235, o228_236, o228_237, o228_238, o228_239, trivial⟩
theorem a228_4 (hl9 : l.stackTraces = false) : sm_all (OKp l S b Lx xs dC dI cA 228) 240 sc_228_4 := ⟨o228_240, o228_241, o228_242, o228_243, o228_244, o228_245, o228_246, o228_247, o228_248, o228_249, o228_250, o228_251, o228_252, o228_253, o228_254, o228_255, o228_256, o228_257, o228_258, o228_259, o228_260, o228_261, o228_262, o228_263, o228_264, o228_265, o228_266, o228_267, o228_268, o228_269, o228_270, o228_271, o228_272, o228_273, o228_274, o228_275, o228_276, o228_277, o228_278, o228_279, o228_280, o228_281, o228_282, o228_283, o228_284, o228_285, o228_286, o228_287, o228_288, o228_289, o228_290, o228_291, o228_292, o228_293, o228_294, o228_295, o228_296, o228_297, o228_298, o228_299, trivial⟩
theorem a228_5 (hl9 : l.stackTraces = false) : sm_all (OKp l S b Lx xs dC dI cA 228) 300 sc_228_5 := ⟨o228_300, o228_301, o228_302, o228_303, o228_304, o228_305, o228_306, o228_307, o228_308, o228_309, o228_310, o228_311, o228_312, o228_313, o228_314, o228_315, o228_316, o228_317, o228_318, o228_319, o228_320, o228_321, o228_322, o228_323, o228_324, o228_325, o228_326, o228_327, o228_328, o228_329, o228_330, o228_331, o228_332, o228_333, o228_334, o228_335, o228_336, o228_337, o228_338, o228_339, o228_340, o228_341, o228_342, o228_343, o228_344, o228_345, o228_346, o228_347, o228_348, o228_349, o228_350, o228_351, o228_352, o228_353, o228_354, o228_355, o228_356, o228_357, o228_358, o228_359, trivial⟩
theorem a228_6 (hl9 : l.stackTraces = false) : sm_all (OKp l S b Lx xs dC dI cA 228) 360 sc_228_6 := ⟨o228_360, o228_361, o228_362, o228_363, o228_364, o228_365, o228_366, o228_367, o228_368, o228_369, o228_370, o228_371, o228_372, o228_373, o228_374, o228_375, o228_376, o228_377, o228_378, o228_379, o228_380, o228_381, o228_382, o228_383, o228_384, o228_385, o228_386, o228_387, o228_388, o228_389, o228_390, o228_391, o228_392, o228_393, o228_394, o228_395, o228_396, o228_397, o228_398, o228_399, o228_400, o228_401, o228_402, o228_403, o228_404, o228_405, o228_406, o228_407, o228_408, o228_409, o228_410, o228_411, o228_412, o228_413, o228_414, o228_415, o228_416, o228_417, o228_418, o228_419, trivial⟩
theorem a228_7 (hl9 : l.stackTraces = false) : sm_all (OKp l S b Lx xs dC dI cA 228) 420 sc_228_7 := ⟨o228_420, o228_421, o228_422, o228_423, o228_424, o228_425, o228_426, o228_427, o228_428, o228_429, o228_430, o228_431, o228_432, o228_433, o228_434, o228_435, o228_436, o228_437, o228_438, o228_439, o228_440, o228_441, o228_442, o228_443, o228_444, o228_445, o228_446, o228_447, o228_448, o228_449, o228_450, o228_451, o228_452, o228_453, o228_454, o228_455, o228_456, o228_457, o228_458, o228_459, o228_460, o228_461, o228_462, o228_463, o228_464, o228_465, o228_466, o228_467, o228_468, o228_469, o228_470, o228_471, o228_472, o228_473, o228_474, o228_475, o228_476, o228_477, o228_478, o228_479, trivial⟩
theorem a228_8 (hl9 : l.stackTraces = false) : sm_all (OKp l S b Lx xs dC dI cA 228) 480 sc_228_8 := ⟨o228_480, o228_481, o228_482, o228_483, o228_484, o228_485, o228_486, o228_487, o228_488, o228_489, o228_490, o228_491, o228_492, o228_493, o228_494, o228_495, o228_496, o228_497, o228_498, o228_499, o228_500, o228_501, o228_502, o228_503, o228_504, o228_505, o228_506, o228_507, o228_508, o228_509, o228_510, o228_511, o228_512, o228_513, o228_514, o228_515, o228_516, o228_517, o228_518, o228_519, o228_520, o228_521, o228_522, o228_523, o228_524, o228_525, o228_526, o228_527, o228_528, o228_529, o228_530, o228_531, o228_532, o228_533, o228_534, o228_535, o228_536, o228_537, o228_538, o228_539, trivial⟩
theorem a228_9 (hl9 : l.stackTraces = false) : sm_all (OKp l S b Lx xs dC dI cA 228) 540 sc_228_9 := ⟨o228_540, o228_541, o228_542, o228_543, o228_544, o228_545, o228_546, o228_547, o228_548, o228_549, o228_550, o228_551, o228_552, o228_553, o228_554, o228_555, o228_556, o228_557, o228_558, o228_559, o228_560, o228_561, o228_562, o228_563, o228_564, o228_565, o228_566, o228_567, o228_568, o228_569, o228_570, o228_571, o228_572, o228_573, o228_574, o228_575, o228_576, o228_577, o228_578, o228_579, o228_580, o228_581, o228_582, o228_583, o228_584, o228_585, o228_586, o228_587, o228_588, o228_589, o228_590, o228_591, o228_592, o228_593, o228_594, o228_595, o228_596, o228_597, o228_598, o228_599, trivial⟩
theorem a228_10 (hl9 : l.stackTraces = false) : sm_all (OKp l S b Lx xs dC dI cA 228) 600 sc_228_10 := ⟨o228_600, o228_601, o228_602, o228_603, o228_604, o228_605, o228_606, o228_607, o228_608, o228_609, o228_610, o228_611, o228_612, o228_613, o228_614, o228_615, o228_616, o228_617, o228_618, o228_619, o228_620, o228_621, o228_622, o228_623, o228_624, o228_625, o228_626, o228_627, o228_628, o228_629, o228_630, o228_631, o228_632, o228_633, o228_634, o228_635, o228_636, o228_637, o228_638, o228_639, o228_640, o228_641, o228_642, o228_643, o228_644, o228_645, o228_646, o228_647, o228_648, o228_649, o228_650, o228_651, o228_652, o228_653, o228_654, o228_655, o228_656, o228_657, o228_658, o228_659, trivial⟩
theorem a228_11 (hl9 : l.stackTraces = false) : sm_all (OKp l S b Lx xs dC dI cA 228) 660 sc_228_11 := ⟨o228_660, o228_661, o228_662, o228_663, o228_664, o228_665, o228_666, o228_667, o228_668, o228_669, o228_670, o228_671, o228_672, o228_673, o228_674, o228_675, o228_676, o228_677, o228_678, o228_679, o228_680, o228_681, o228_682, o228_683, o228_684, o228_685, o228_686, o228_687, o228_688, o228_689, o228_690, o228_691, o228_692, o228_693, o228_694, o228_695, o228_696, o228_697, o228_698, o228_699, o228_700, o228_701, o228_702, o228_703, o228_704, o228_705, o228_706, o228_707, o228_708, o228_709, o228_710, o228_711, o228_712, o228_713, o228_714, o228_715, o228_716, o228_717, o228_718, o228_719, trivial⟩
theorem a228_12 (hl9 : l.stackTraces = false) : sm_all (OKp l S b Lx xs dC dI cA 228) 720 sc_228_12 := ⟨o228_720, o228_721, o228_722, o228_723, o228_724, o228_725, o228_726, o228_727, o228_728, o228_729, o228_730, o228_731, o228_732, o228_733, o228_734, o228_735, o228_736, o228_737, o228_738, o228_739, o228_740, o228_741, o228_742, o228_743, o228_744, o228_745, o228_746, o228_747, o228_748, o228_749, o228_750, o228_751, o228_752, o228_753, o228_754, o228_755, o228_756, o228_757, o228_758, o228_759, o228_760, o228_761, o228_762, o228_763, o228_764, o228_765, o228_766, o228_767, o228_768, o228_769, o228_770, o228_771, o228_772, o228_773, o228_774, o228_775, o228_776, o228_777, o228_778, o228_779, trivial⟩
theorem a228_13 (hl9 : l.stackTraces = false) : sm_all (OKp l S b Lx xs dC dI cA 228) 780 sc_228_13 := ⟨o228_780, o228_781, o228_782, o228_783, o228_784, o228_785, o228_786, o228_787, o228_788, o228_789, o228_790, o228_791, o228_792, o228_793, o228_794, o228_795, o228_796, o228_797, o228_798, o228_799, o228_800, o228_801, o228_802, o228_803, o228_804, o228_805, o228_806, o228_807, o228_808, o228_809, o228_810, o228_811, o228_812, o228_813, o228_814, o228_815, o228_816, o228_817, o228_818, o228_819, o228_820, o228_821, o228_822, o228_823, o228_824, o228_825, o228_826, o228_827, o228_828, o228_829, o228_830, o228_831, o228_832, o228_833, o228_834, o228_835, o228_836, o228_837, o228_838, o228_839, trivial⟩
theorem a228_14 (hl9 : l.stackTraces = false) : sm_all (OKp l S b Lx xs dC dI cA 228) 840 sc_228_14 := ⟨o228_840, o228_841, o228_842, o228_843, o228_844, o228_845, o228_846, o228_847, o228_848, o228_849, o228_850, o228_851, o228_852, o228_853, o228_854, o228_855, o228_856, o228_857, o228_858, o228_859, o228_860, o228_861, o228_862, o228_863, o228_864, o228_865, o228_866, o228_867, o228_868, o228_869, o228_870, o228_871, o228_872, o228_873, o228_874, o228_875, o228_876, o228_877, o228_878, o228_879, o228_880, o228_881, o228_882, o228_883, o228_884, o228_885, o228_886, o228_887, o228_888, o228_889, o228_890, o228_891, o228_892, o228_893, o228_894, o228_895, o228_896, o228_897, o228_898, o228_899, trivial⟩
theorem a228_15 (hl9 : l.stackTraces = false) : sm_all (OKp l S b Lx xs dC dI cA 228) 900 sc_228_15 := ⟨o228_900, o228_901, o228_902, o228_903, o228_904, o228_905, o228_906, o228_907, o228_908, o228_909, o228_910, o228_911, o228_912, o228_913, o228_914, o228_915, o228_916, o228_917, o228_918, o228_919, o228_920, o228_921, o228_922, o228_923, o228_924, o228_925, o228_926, o228_927, o228_928, o228_929, o228_930, o228_931, o228_932, o228_933, o228_934, o228_935, o228_936, o228_937, o228_938, o228_939, o228_940, o228_941, o228_942, o228_943, o228_944, o228_945, o228_946, o228_947, o228_948, o228_949, o228_950, o228_951, o228_952, o228_953, o228_954, o228_955, o228_956, o228_957, o228_958, o228_959, trivial⟩
theorem a228_16 (hl9 : l.stackTraces = false) : sm_all (OKp l S b Lx xs dC dI cA 228) 960 sc_228_16 := ⟨o228_960, o228_961, o228_962, o228_963, o228_964, o228_965, o228_966, o228_967, o228_968, o228_969, o228_970, o228_971, o228_972, o228_973, o228_974, o228_975, o228_976, o228_977, o228_978, o228_979, o228_980, o228_981, o228_982, o228_983, o228_984, o228_985, o228_986, o228_987, o228_988, o228_989, o228_990, o228_991, o228_992, o228_993, o228_994, o228_995, o228_996, o228_997, o228_998, o228_999, o228_1000, o228_1001, o228_1002, o228_1003, o228_1004, o228_1005, o228_1006, o228_1007, o228_1008, o228_1009, o228_1010, trivial⟩
theorem a228 (hl9 : l.stackTraces = false) : sm_all (OKp l S b Lx xs dC dI cA 228) 0 sc_228 := sm_all_app _ _ _ (a228_0 hl9) (sm_all_app _ _ _ (a228_1 hl9) (sm_all_app _ _ _ (a228_2 hl9) (sm_all_app _ _ _ (a228_3 hl9) (sm_all_app _ _ _ (a228_4 hl9) (sm_all_app _ _ _ (a228_5 hl9) (sm_all_app _ _ _ (a228_6 hl9) (sm_all_app _ _ _ (a228_7 hl9) (sm_all_app _ _ _ (a228_8 hl9) (sm_all_app _ _ _ (a228_9 hl9) (sm_all_app _ _ _ (a228_10 hl9) (sm_all_app _ _ _ (a228_11 hl9) (sm_all_app _ _ _ (a228_12 hl9) (sm_all_app _ _ _ (a228_13 hl9) (sm_all_app _ _ _ (a228_14 hl9) (sm_all_app _ _ _ (a228_15 hl9) (a228_16 hl9))))))))))))))))
end SMOKS
