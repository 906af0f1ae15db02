set_option maxHeartbeats 8000000 in
theorem lw_18 {L : Nat} {xs : Nat → Int32} {n sl : Nat} {T : Nat → zT} {I : Nat → Nat → Int} {P : Nat → Nat → Option Nat} {G : Nat → Nat → Int} {K : List zV → zH → Prop} {i : Int} (hL : L ≤ 3072) (h0 : 0 ≤ i) (h1 : i + 6 ≤ L) (h : zLw i n sl T I P) (hB : ∀ (n2 sl2 : Nat) (T2 : Nat → zT) (I2 : Nat → Nat → Int) (P2 : Nat → Nat → Option Nat) (G2 : Nat → Nat → Int), zLw (i + 6) n2 sl2 T2 I2 P2 → zB zMd L xs 271 1420 [(3, .inl i), (2, .inr (.inl (some 56))), (1, .inr (.inl (some 1))), (0, .inr (.inl (some 0)))] [] (n2, sl2, T2, I2, P2, G2) K) : zB zMd L xs 271 926 [(3, .inl i), (2, .inr (.inl (some 56))), (1, .inr (.inl (some 1))), (0, .inr (.inl (some 0)))] [] (n, sl, T, I, P, G) K := by
  have hn := h.1
  have hC := h.2.1
  have hT := h.2.2.1
  have t1 : T 1 = (1, 11, [1]) := hC 1 (by decide) (by decide)
  refine z_aload_n (pc2 := 927) rfl rfl rfl ?_
  refine z_aload_n (pc2 := 928) rfl rfl rfl ?_
  refine z_iload_n (pc2 := 929) rfl rfl rfl ?_
  refine z_iconst (pc2 := 930) rfl rfl ?_
  refine z_iadd (pc2 := 931) rfl rfl ?_
  refine z_sald (pc2 := 932) rfl rfl (by omega) (by omega) (by omega) (fun v1 v1e v1r => ?_)
  refine z_aload_n (pc2 := 933) rfl rfl rfl ?_
  refine z_iload_n (pc2 := 934) rfl rfl rfl ?_
  refine z_iconst (pc2 := 935) rfl rfl ?_
  refine z_iadd (pc2 := 936) rfl rfl ?_
  refine z_sald (pc2 := 937) rfl rfl (by omega) (by omega) (by omega) (fun v2 v2e v2r => ?_)
  refine z_callV (y2 := 124) (as := [_, _]) (rest := []) (pc2 := 940) rfl rfl rfl rfl t1 rfl ?_
  refine c_TypeRoom_lay hn hC v1r v2r h.2.2.2.2.1 (fun e n2 sl2 T2 I2 P2 G2 f b => ?_)
  have t56 : T2 56 = (1, 12, [1]) := zLw_T h f.1 56 (by decide) (by decide)
  show zB _ _ _ _ _ _ [_] _ _
  refine z_pop (pc2 := 941) rfl rfl rfl ?_
  refine z_aload_n (pc2 := 942) rfl rfl rfl ?_
  refine z_aload_n (pc2 := 943) rfl rfl rfl ?_
  refine z_iload_n (pc2 := 944) rfl rfl rfl ?_
  refine z_iconst (pc2 := 945) rfl rfl ?_
  refine z_iadd (pc2 := 946) rfl rfl ?_
  refine z_sald (pc2 := 947) rfl rfl (by omega) (by omega) (by omega) (fun w3 w3e w3r => ?_)
  obtain rfl : v1 = w3 := v1e.trans w3e.symm
  clear w3e w3r
  refine z_aload_n (pc2 := 948) rfl rfl rfl ?_
  refine z_iload_n (pc2 := 949) rfl rfl rfl ?_
  refine z_iconst (pc2 := 950) rfl rfl ?_
  refine z_iadd (pc2 := 951) rfl rfl ?_
  refine z_sald (pc2 := 952) rfl rfl (by omega) (by omega) (by omega) (fun w4 w4e w4r => ?_)
  obtain rfl : v2 = w4 := v2e.trans w4e.symm
  clear w4e w4r
  refine z_callV (y2 := 219) (as := [_, _]) (rest := []) (pc2 := 955) rfl rfl rfl rfl t56 rfl ?_
  refine m_lay (zLw_T h f.1) v1r v2r  (fun e2 I3 G3 r => ?_)
  show zB _ _ _ _ _ _ [_] _ _
  refine z_pop (pc2 := 956) rfl rfl rfl ?_
  refine z_goto (pc2 := 1420) rfl rfl ?_
  refine z_lv (lv2 := [(3, _), (2, _), (1, _), (0, _)]) ⟨rfl, rfl, rfl, rfl, trivial⟩ ?_
  exact hB _ _ _ _ _ _ (zLw_s h f (by omega) r)
set_option maxHeartbeats 8000000 in
theorem lw_19 {L : Nat} {xs : Nat → Int32} {n sl : Nat} {T : Nat → zT} {I : Nat → Nat → Int} {P : Nat → Nat → Option Nat} {G : Nat → Nat → Int} {K : List zV → zH → Prop} {i : Int} (hL : L ≤ 3072) (h0 : 0 ≤ i) (h1 : i + 6 ≤ L) (h : zLw i n sl T I P) (hB : ∀ (n2 sl2 : Nat) (T2 : Nat → zT) (I2 : Nat → Nat → Int) (P2 : Nat → Nat → Option Nat) (G2 : Nat → Nat → Int), zLw (i + 6) n2 sl2 T2 I2 P2 → zB zMd L xs 271 1420 [(3, .inl i), (2, .inr (.inl (some 56))), (1, .inr (.inl (some 1))), (0, .inr (.inl (some 0)))] [] (n2, sl2, T2, I2, P2, G2) K) : zB zMd L xs 271 959 [(3, .inl i), (2, .inr (.inl (some 56))), (1, .inr (.inl (some 1))), (0, .inr (.inl (some 0)))] [] (n, sl, T, I, P, G) K := by
  have hn := h.1
  have hC := h.2.1
  have hT := h.2.2.1
  have t1 : T 1 = (1, 11, [1]) := hC 1 (by decide) (by decide)
  refine z_aload_n (pc2 := 960) rfl rfl rfl ?_
  refine z_aload_n (pc2 := 961) rfl rfl rfl ?_
  refine z_iload_n (pc2 := 962) rfl rfl rfl ?_
  refine z_iconst (pc2 := 963) rfl rfl ?_
  refine z_iadd (pc2 := 964) rfl rfl ?_
  refine z_sald (pc2 := 965) rfl rfl (by omega) (by omega) (by omega) (fun v1 v1e v1r => ?_)
  refine z_aload_n (pc2 := 966) rfl rfl rfl ?_
  refine z_iload_n (pc2 := 967) rfl rfl rfl ?_
  refine z_iconst (pc2 := 968) rfl rfl ?_
  refine z_iadd (pc2 := 969) rfl rfl ?_
  refine z_sald (pc2 := 970) rfl rfl (by omega) (by omega) (by omega) (fun v2 v2e v2r => ?_)
  refine z_callV (y2 := 125) (as := [_, _]) (rest := []) (pc2 := 973) rfl rfl rfl rfl t1 rfl ?_
  refine c_TypeRoom_pick hn hC v1r v2r h.2.2.2.2.1 (fun e n2 sl2 T2 I2 P2 G2 f b => ?_)
  have t56 : T2 56 = (1, 12, [1]) := zLw_T h f.1 56 (by decide) (by decide)
  show zB _ _ _ _ _ _ [_] _ _
  refine z_pop (pc2 := 974) rfl rfl rfl ?_
  refine z_aload_n (pc2 := 975) rfl rfl rfl ?_
  refine z_aload_n (pc2 := 976) rfl rfl rfl ?_
  refine z_iload_n (pc2 := 977) rfl rfl rfl ?_
  refine z_iconst (pc2 := 978) rfl rfl ?_
  refine z_iadd (pc2 := 979) rfl rfl ?_
  refine z_sald (pc2 := 980) rfl rfl (by omega) (by omega) (by omega) (fun w3 w3e w3r => ?_)
  obtain rfl : v1 = w3 := v1e.trans w3e.symm
  clear w3e w3r
  refine z_aload_n (pc2 := 981) rfl rfl rfl ?_
  refine z_iload_n (pc2 := 982) rfl rfl rfl ?_
  refine z_iconst (pc2 := 983) rfl rfl ?_
  refine z_iadd (pc2 := 984) rfl rfl ?_
  refine z_sald (pc2 := 985) rfl rfl (by omega) (by omega) (by omega) (fun w4 w4e w4r => ?_)
  obtain rfl : v2 = w4 := v2e.trans w4e.symm
  clear w4e w4r
  refine z_callV (y2 := 220) (as := [_, _]) (rest := []) (pc2 := 988) rfl rfl rfl rfl t56 rfl ?_
  refine m_pick (zLw_T h f.1) v1r v2r  (fun e2 I3 G3 r => ?_)
  show zB _ _ _ _ _ _ [_] _ _
  refine z_pop (pc2 := 989) rfl rfl rfl ?_
  refine z_goto (pc2 := 1420) rfl rfl ?_
  refine z_lv (lv2 := [(3, _), (2, _), (1, _), (0, _)]) ⟨rfl, rfl, rfl, rfl, trivial⟩ ?_
  exact hB _ _ _ _ _ _ (zLw_s h f (by omega) r)
set_option maxHeartbeats 8000000 in
theorem lw_20 {L : Nat} {xs : Nat → Int32} {n sl : Nat} {T : Nat → zT} {I : Nat → Nat → Int} {P : Nat → Nat → Option Nat} {G : Nat → Nat → Int} {K : List zV → zH → Prop} {i : Int} (hL : L ≤ 3072) (h0 : 0 ≤ i) (h1 : i + 6 ≤ L) (h : zLw i n sl T I P) (hB : ∀ (n2 sl2 : Nat) (T2 : Nat → zT) (I2 : Nat → Nat → Int) (P2 : Nat → Nat → Option Nat) (G2 : Nat → Nat → Int), zLw (i + 6) n2 sl2 T2 I2 P2 → zB zMd L xs 271 1420 [(3, .inl i), (2, .inr (.inl (some 56))), (1, .inr (.inl (some 1))), (0, .inr (.inl (some 0)))] [] (n2, sl2, T2, I2, P2, G2) K) : zB zMd L xs 271 992 [(3, .inl i), (2, .inr (.inl (some 56))), (1, .inr (.inl (some 1))), (0, .inr (.inl (some 0)))] [] (n, sl, T, I, P, G) K := by
  have hn := h.1
  have hC := h.2.1
  have hT := h.2.2.1
  have t1 : T 1 = (1, 11, [1]) := hC 1 (by decide) (by decide)
  refine z_aload_n (pc2 := 993) rfl rfl rfl ?_
  refine z_aload_n (pc2 := 994) rfl rfl rfl ?_
  refine z_iload_n (pc2 := 995) rfl rfl rfl ?_
  refine z_iconst (pc2 := 996) rfl rfl ?_
  refine z_iadd (pc2 := 997) rfl rfl ?_
  refine z_sald (pc2 := 998) rfl rfl (by omega) (by omega) (by omega) (fun v1 v1e v1r => ?_)
  refine z_aload_n (pc2 := 999) rfl rfl rfl ?_
  refine z_iload_n (pc2 := 1000) rfl rfl rfl ?_
  refine z_iconst (pc2 := 1001) rfl rfl ?_
  refine z_iadd (pc2 := 1002) rfl rfl ?_
  refine z_sald (pc2 := 1003) rfl rfl (by omega) (by omega) (by omega) (fun v2 v2e v2r => ?_)
  refine z_aload_n (pc2 := 1004) rfl rfl rfl ?_
  refine z_iload_n (pc2 := 1005) rfl rfl rfl ?_
  refine z_iconst (pc2 := 1006) rfl rfl ?_
  refine z_iadd (pc2 := 1007) rfl rfl ?_
  refine z_sald (pc2 := 1008) rfl rfl (by omega) (by omega) (by omega) (fun v3 v3e v3r => ?_)
  refine z_callV (y2 := 126) (as := [_, _, _]) (rest := []) (pc2 := 1011) rfl rfl rfl rfl t1 rfl ?_
  refine c_TypeRoom_set hn hC v1r v2r v3r h.2.2.2.2.1 (fun e n2 sl2 T2 I2 P2 G2 f b => ?_)
  have t56 : T2 56 = (1, 12, [1]) := zLw_T h f.1 56 (by decide) (by decide)
  show zB _ _ _ _ _ _ [_] _ _
  refine z_pop (pc2 := 1012) rfl rfl rfl ?_
  refine z_aload_n (pc2 := 1013) rfl rfl rfl ?_
  refine z_aload_n (pc2 := 1014) rfl rfl rfl ?_
  refine z_iload_n (pc2 := 1015) rfl rfl rfl ?_
  refine z_iconst (pc2 := 1016) rfl rfl ?_
  refine z_iadd (pc2 := 1017) rfl rfl ?_
  refine z_sald (pc2 := 1018) rfl rfl (by omega) (by omega) (by omega) (fun w4 w4e w4r => ?_)
  obtain rfl : v1 = w4 := v1e.trans w4e.symm
  clear w4e w4r
  refine z_aload_n (pc2 := 1019) rfl rfl rfl ?_
  refine z_iload_n (pc2 := 1020) rfl rfl rfl ?_
  refine z_iconst (pc2 := 1021) rfl rfl ?_
  refine z_iadd (pc2 := 1022) rfl rfl ?_
  refine z_sald (pc2 := 1023) rfl rfl (by omega) (by omega) (by omega) (fun w5 w5e w5r => ?_)
  obtain rfl : v2 = w5 := v2e.trans w5e.symm
  clear w5e w5r
  refine z_aload_n (pc2 := 1024) rfl rfl rfl ?_
  refine z_iload_n (pc2 := 1025) rfl rfl rfl ?_
  refine z_iconst (pc2 := 1026) rfl rfl ?_
  refine z_iadd (pc2 := 1027) rfl rfl ?_
  refine z_sald (pc2 := 1028) rfl rfl (by omega) (by omega) (by omega) (fun w6 w6e w6r => ?_)
  obtain rfl : v3 = w6 := v3e.trans w6e.symm
  clear w6e w6r
  refine z_callV (y2 := 240) (as := [_, _, _]) (rest := []) (pc2 := 1031) rfl rfl rfl rfl t56 rfl ?_
  refine m_set (zLw_T h f.1) v1r v2r v3r (zLw_R h f) (fun e2 I3 G3 r => ?_)
  show zB _ _ _ _ _ _ [_] _ _
  refine z_pop (pc2 := 1032) rfl rfl rfl ?_
  refine z_goto (pc2 := 1420) rfl rfl ?_
  refine z_lv (lv2 := [(3, _), (2, _), (1, _), (0, _)]) ⟨rfl, rfl, rfl, rfl, trivial⟩ ?_
  exact hB _ _ _ _ _ _ (zLw_s h f (by omega) r)
set_option maxHeartbeats 8000000 in
theorem lw_21 {L : Nat} {xs : Nat → Int32} {n sl : Nat} {T : Nat → zT} {I : Nat → Nat → Int} {P : Nat → Nat → Option Nat} {G : Nat → Nat → Int} {K : List zV → zH → Prop} {i : Int} (hL : L ≤ 3072) (h0 : 0 ≤ i) (h1 : i + 6 ≤ L) (h : zLw i n sl T I P) (hB : ∀ (n2 sl2 : Nat) (T2 : Nat → zT) (I2 : Nat → Nat → Int) (P2 : Nat → Nat → Option Nat) (G2 : Nat → Nat → Int), zLw (i + 6) n2 sl2 T2 I2 P2 → zB zMd L xs 271 1420 [(3, .inl i), (2, .inr (.inl (some 56))), (1, .inr (.inl (some 1))), (0, .inr (.inl (some 0)))] [] (n2, sl2, T2, I2, P2, G2) K) : zB zMd L xs 271 1035 [(3, .inl i), (2, .inr (.inl (some 56))), (1, .inr (.inl (some 1))), (0, .inr (.inl (some 0)))] [] (n, sl, T, I, P, G) K := by
  have hn := h.1
  have hC := h.2.1
  have hT := h.2.2.1
  have t1 : T 1 = (1, 11, [1]) := hC 1 (by decide) (by decide)
  refine z_aload_n (pc2 := 1036) rfl rfl rfl ?_
  refine z_aload_n (pc2 := 1037) rfl rfl rfl ?_
  refine z_iload_n (pc2 := 1038) rfl rfl rfl ?_
  refine z_iconst (pc2 := 1039) rfl rfl ?_
  refine z_iadd (pc2 := 1040) rfl rfl ?_
  refine z_sald (pc2 := 1041) rfl rfl (by omega) (by omega) (by omega) (fun v1 v1e v1r => ?_)
  refine z_callV (y2 := 127) (as := [_]) (rest := []) (pc2 := 1044) rfl rfl rfl rfl t1 rfl ?_
  refine c_TypeRoom_drop hn hC v1r h.2.2.2.2.1 (fun e n2 sl2 T2 I2 P2 G2 f b => ?_)
  have t56 : T2 56 = (1, 12, [1]) := zLw_T h f.1 56 (by decide) (by decide)
  show zB _ _ _ _ _ _ [_] _ _
  refine z_pop (pc2 := 1045) rfl rfl rfl ?_
  refine z_aload_n (pc2 := 1046) rfl rfl rfl ?_
  refine z_aload_n (pc2 := 1047) rfl rfl rfl ?_
  refine z_iload_n (pc2 := 1048) rfl rfl rfl ?_
  refine z_iconst (pc2 := 1049) rfl rfl ?_
  refine z_iadd (pc2 := 1050) rfl rfl ?_
  refine z_sald (pc2 := 1051) rfl rfl (by omega) (by omega) (by omega) (fun w2 w2e w2r => ?_)
  obtain rfl : v1 = w2 := v1e.trans w2e.symm
  clear w2e w2r
  refine z_callV (y2 := 243) (as := [_]) (rest := []) (pc2 := 1054) rfl rfl rfl rfl t56 rfl ?_
  refine m_drop (zLw_T h f.1) v1r  (fun e2 I3 G3 r => ?_)
  show zB _ _ _ _ _ _ [_] _ _
  refine z_pop (pc2 := 1055) rfl rfl rfl ?_
  refine z_goto (pc2 := 1420) rfl rfl ?_
  refine z_lv (lv2 := [(3, _), (2, _), (1, _), (0, _)]) ⟨rfl, rfl, rfl, rfl, trivial⟩ ?_
  exact hB _ _ _ _ _ _ (zLw_s h f (by omega) r)
set_option maxHeartbeats 8000000 in
theorem lw_22 {L : Nat} {xs : Nat → Int32} {n sl : Nat} {T : Nat → zT} {I : Nat → Nat → Int} {P : Nat → Nat → Option Nat} {G : Nat → Nat → Int} {K : List zV → zH → Prop} {i : Int} (hL : L ≤ 3072) (h0 : 0 ≤ i) (h1 : i + 6 ≤ L) (h : zLw i n sl T I P) (hB : ∀ (n2 sl2 : Nat) (T2 : Nat → zT) (I2 : Nat → Nat → Int) (P2 : Nat → Nat → Option Nat) (G2 : Nat → Nat → Int), zLw (i + 6) n2 sl2 T2 I2 P2 → zB zMd L xs 271 1420 [(3, .inl i), (2, .inr (.inl (some 56))), (1, .inr (.inl (some 1))), (0, .inr (.inl (some 0)))] [] (n2, sl2, T2, I2, P2, G2) K) : zB zMd L xs 271 1058 [(3, .inl i), (2, .inr (.inl (some 56))), (1, .inr (.inl (some 1))), (0, .inr (.inl (some 0)))] [] (n, sl, T, I, P, G) K := by
  have hn := h.1
  have hC := h.2.1
  have hT := h.2.2.1
  have t1 : T 1 = (1, 11, [1]) := hC 1 (by decide) (by decide)
  refine z_aload_n (pc2 := 1059) rfl rfl rfl ?_
  refine z_aload_n (pc2 := 1060) rfl rfl rfl ?_
  refine z_iload_n (pc2 := 1061) rfl rfl rfl ?_
  refine z_iconst (pc2 := 1062) rfl rfl ?_
  refine z_iadd (pc2 := 1063) rfl rfl ?_
  refine z_sald (pc2 := 1064) rfl rfl (by omega) (by omega) (by omega) (fun v1 v1e v1r => ?_)
  refine z_aload_n (pc2 := 1065) rfl rfl rfl ?_
  refine z_iload_n (pc2 := 1066) rfl rfl rfl ?_
  refine z_iconst (pc2 := 1067) rfl rfl ?_
  refine z_iadd (pc2 := 1068) rfl rfl ?_
  refine z_sald (pc2 := 1069) rfl rfl (by omega) (by omega) (by omega) (fun v2 v2e v2r => ?_)
  refine z_callV (y2 := 128) (as := [_, _]) (rest := []) (pc2 := 1072) rfl rfl rfl rfl t1 rfl ?_
  refine c_TypeRoom_line hn hC v1r v2r h.2.2.2.2.1 (fun e n2 sl2 T2 I2 P2 G2 f b => ?_)
  have t56 : T2 56 = (1, 12, [1]) := zLw_T h f.1 56 (by decide) (by decide)
  show zB _ _ _ _ _ _ [_] _ _
  refine z_pop (pc2 := 1073) rfl rfl rfl ?_
  refine z_aload_n (pc2 := 1074) rfl rfl rfl ?_
  refine z_aload_n (pc2 := 1075) rfl rfl rfl ?_
  refine z_iload_n (pc2 := 1076) rfl rfl rfl ?_
  refine z_iconst (pc2 := 1077) rfl rfl ?_
  refine z_iadd (pc2 := 1078) rfl rfl ?_
  refine z_sald (pc2 := 1079) rfl rfl (by omega) (by omega) (by omega) (fun w3 w3e w3r => ?_)
  obtain rfl : v1 = w3 := v1e.trans w3e.symm
  clear w3e w3r
  refine z_aload_n (pc2 := 1080) rfl rfl rfl ?_
  refine z_iload_n (pc2 := 1081) rfl rfl rfl ?_
  refine z_iconst (pc2 := 1082) rfl rfl ?_
  refine z_iadd (pc2 := 1083) rfl rfl ?_
  refine z_sald (pc2 := 1084) rfl rfl (by omega) (by omega) (by omega) (fun w4 w4e w4r => ?_)
  obtain rfl : v2 = w4 := v2e.trans w4e.symm
  clear w4e w4r
  refine z_callV (y2 := 244) (as := [_, _]) (rest := []) (pc2 := 1087) rfl rfl rfl rfl t56 rfl ?_
  refine m_line (zLw_T h f.1) v1r v2r  (fun e2 I3 G3 r => ?_)
  show zB _ _ _ _ _ _ [_] _ _
  refine z_pop (pc2 := 1088) rfl rfl rfl ?_
  refine z_goto (pc2 := 1420) rfl rfl ?_
  refine z_lv (lv2 := [(3, _), (2, _), (1, _), (0, _)]) ⟨rfl, rfl, rfl, rfl, trivial⟩ ?_
  exact hB _ _ _ _ _ _ (zLw_s h f (by omega) r)
set_option maxHeartbeats 8000000 in
theorem lw_23 {L : Nat} {xs : Nat → Int32} {n sl : Nat} {T : Nat → zT} {I : Nat → Nat → Int} {P : Nat → Nat → Option Nat} {G : Nat → Nat → Int} {K : List zV → zH → Prop} {i : Int} (hL : L ≤ 3072) (h0 : 0 ≤ i) (h1 : i + 6 ≤ L) (h : zLw i n sl T I P) (hB : ∀ (n2 sl2 : Nat) (T2 : Nat → zT) (I2 : Nat → Nat → Int) (P2 : Nat → Nat → Option Nat) (G2 : Nat → Nat → Int), zLw (i + 6) n2 sl2 T2 I2 P2 → zB zMd L xs 271 1420 [(3, .inl i), (2, .inr (.inl (some 56))), (1, .inr (.inl (some 1))), (0, .inr (.inl (some 0)))] [] (n2, sl2, T2, I2, P2, G2) K) : zB zMd L xs 271 1091 [(3, .inl i), (2, .inr (.inl (some 56))), (1, .inr (.inl (some 1))), (0, .inr (.inl (some 0)))] [] (n, sl, T, I, P, G) K := by
  have hn := h.1
  have hC := h.2.1
  have hT := h.2.2.1
  have t1 : T 1 = (1, 11, [1]) := hC 1 (by decide) (by decide)
  refine z_aload_n (pc2 := 1092) rfl rfl rfl ?_
  refine z_aload_n (pc2 := 1093) rfl rfl rfl ?_
  refine z_iload_n (pc2 := 1094) rfl rfl rfl ?_
  refine z_iconst (pc2 := 1095) rfl rfl ?_
  refine z_iadd (pc2 := 1096) rfl rfl ?_
  refine z_sald (pc2 := 1097) rfl rfl (by omega) (by omega) (by omega) (fun v1 v1e v1r => ?_)
  refine z_aload_n (pc2 := 1098) rfl rfl rfl ?_
  refine z_iload_n (pc2 := 1099) rfl rfl rfl ?_
  refine z_iconst (pc2 := 1100) rfl rfl ?_
  refine z_iadd (pc2 := 1101) rfl rfl ?_
  refine z_sald (pc2 := 1102) rfl rfl (by omega) (by omega) (by omega) (fun v2 v2e v2r => ?_)
  refine z_aload_n (pc2 := 1103) rfl rfl rfl ?_
  refine z_iload_n (pc2 := 1104) rfl rfl rfl ?_
  refine z_iconst (pc2 := 1105) rfl rfl ?_
  refine z_iadd (pc2 := 1106) rfl rfl ?_
  refine z_sald (pc2 := 1107) rfl rfl (by omega) (by omega) (by omega) (fun v3 v3e v3r => ?_)
  refine z_callV (y2 := 129) (as := [_, _, _]) (rest := []) (pc2 := 1110) rfl rfl rfl rfl t1 rfl ?_
  refine c_TypeRoom_sortOf hn hC v1r v2r v3r h.2.2.2.2.1 (fun e n2 sl2 T2 I2 P2 G2 f b => ?_)
  have t56 : T2 56 = (1, 12, [1]) := zLw_T h f.1 56 (by decide) (by decide)
  show zB _ _ _ _ _ _ [_] _ _
  refine z_pop (pc2 := 1111) rfl rfl rfl ?_
  refine z_aload_n (pc2 := 1112) rfl rfl rfl ?_
  refine z_aload_n (pc2 := 1113) rfl rfl rfl ?_
  refine z_iload_n (pc2 := 1114) rfl rfl rfl ?_
  refine z_iconst (pc2 := 1115) rfl rfl ?_
  refine z_iadd (pc2 := 1116) rfl rfl ?_
  refine z_sald (pc2 := 1117) rfl rfl (by omega) (by omega) (by omega) (fun w4 w4e w4r => ?_)
  obtain rfl : v1 = w4 := v1e.trans w4e.symm
  clear w4e w4r
  refine z_aload_n (pc2 := 1118) rfl rfl rfl ?_
  refine z_iload_n (pc2 := 1119) rfl rfl rfl ?_
  refine z_iconst (pc2 := 1120) rfl rfl ?_
  refine z_iadd (pc2 := 1121) rfl rfl ?_
  refine z_sald (pc2 := 1122) rfl rfl (by omega) (by omega) (by omega) (fun w5 w5e w5r => ?_)
  obtain rfl : v2 = w5 := v2e.trans w5e.symm
  clear w5e w5r
  refine z_aload_n (pc2 := 1123) rfl rfl rfl ?_
  refine z_iload_n (pc2 := 1124) rfl rfl rfl ?_
  refine z_iconst (pc2 := 1125) rfl rfl ?_
  refine z_iadd (pc2 := 1126) rfl rfl ?_
  refine z_sald (pc2 := 1127) rfl rfl (by omega) (by omega) (by omega) (fun w6 w6e w6r => ?_)
  obtain rfl : v3 = w6 := v3e.trans w6e.symm
  clear w6e w6r
  refine z_callV (y2 := 245) (as := [_, _, _]) (rest := []) (pc2 := 1130) rfl rfl rfl rfl t56 rfl ?_
  refine m_sortOf (zLw_T h f.1) v1r v2r v3r  (fun e2 I3 G3 r => ?_)
  show zB _ _ _ _ _ _ [_] _ _
  refine z_pop (pc2 := 1131) rfl rfl rfl ?_
  refine z_goto (pc2 := 1420) rfl rfl ?_
  refine z_lv (lv2 := [(3, _), (2, _), (1, _), (0, _)]) ⟨rfl, rfl, rfl, rfl, trivial⟩ ?_
  exact hB _ _ _ _ _ _ (zLw_s h f (by omega) r)
set_option maxHeartbeats 8000000 in
theorem lw_24 {L : Nat} {xs : Nat → Int32} {n sl : Nat} {T : Nat → zT} {I : Nat → Nat → Int} {P : Nat → Nat → Option Nat} {G : Nat → Nat → Int} {K : List zV → zH → Prop} {i : Int} (hL : L ≤ 3072) (h0 : 0 ≤ i) (h1 : i + 6 ≤ L) (h : zLw i n sl T I P) (hB : ∀ (n2 sl2 : Nat) (T2 : Nat → zT) (I2 : Nat → Nat → Int) (P2 : Nat → Nat → Option Nat) (G2 : Nat → Nat → Int), zLw (i + 6) n2 sl2 T2 I2 P2 → zB zMd L xs 271 1420 [(3, .inl i), (2, .inr (.inl (some 56))), (1, .inr (.inl (some 1))), (0, .inr (.inl (some 0)))] [] (n2, sl2, T2, I2, P2, G2) K) : zB zMd L xs 271 1134 [(3, .inl i), (2, .inr (.inl (some 56))), (1, .inr (.inl (some 1))), (0, .inr (.inl (some 0)))] [] (n, sl, T, I, P, G) K := by
  have hn := h.1
  have hC := h.2.1
  have hT := h.2.2.1
  have t1 : T 1 = (1, 11, [1]) := hC 1 (by decide) (by decide)
  refine z_aload_n (pc2 := 1135) rfl rfl rfl ?_
  refine z_aload_n (pc2 := 1136) rfl rfl rfl ?_
  refine z_iload_n (pc2 := 1137) rfl rfl rfl ?_
  refine z_iconst (pc2 := 1138) rfl rfl ?_
  refine z_iadd (pc2 := 1139) rfl rfl ?_
  refine z_sald (pc2 := 1140) rfl rfl (by omega) (by omega) (by omega) (fun v1 v1e v1r => ?_)
  refine z_callV (y2 := 130) (as := [_]) (rest := []) (pc2 := 1143) rfl rfl rfl rfl t1 rfl ?_
  refine c_TypeRoom_makeup hn hC v1r h.2.2.2.2.1 (fun e n2 sl2 T2 I2 P2 G2 f b => ?_)
  have t56 : T2 56 = (1, 12, [1]) := zLw_T h f.1 56 (by decide) (by decide)
  show zB _ _ _ _ _ _ [_] _ _
  refine z_pop (pc2 := 1144) rfl rfl rfl ?_
  refine z_aload_n (pc2 := 1145) rfl rfl rfl ?_
  refine z_aload_n (pc2 := 1146) rfl rfl rfl ?_
  refine z_iload_n (pc2 := 1147) rfl rfl rfl ?_
  refine z_iconst (pc2 := 1148) rfl rfl ?_
  refine z_iadd (pc2 := 1149) rfl rfl ?_
  refine z_sald (pc2 := 1150) rfl rfl (by omega) (by omega) (by omega) (fun w2 w2e w2r => ?_)
  obtain rfl : v1 = w2 := v1e.trans w2e.symm
  clear w2e w2r
  refine z_callV (y2 := 252) (as := [_]) (rest := []) (pc2 := 1153) rfl rfl rfl rfl t56 rfl ?_
  refine m_makeup (zLw_T h f.1) v1r (zLw_R h f) (fun e2 I3 G3 r => ?_)
  show zB _ _ _ _ _ _ [_] _ _
  refine z_pop (pc2 := 1154) rfl rfl rfl ?_
  refine z_goto (pc2 := 1420) rfl rfl ?_
  refine z_lv (lv2 := [(3, _), (2, _), (1, _), (0, _)]) ⟨rfl, rfl, rfl, rfl, trivial⟩ ?_
  exact hB _ _ _ _ _ _ (zLw_s h f (by omega) r)
set_option maxHeartbeats 8000000 in
theorem lw_25 {L : Nat} {xs : Nat → Int32} {n sl : Nat} {T : Nat → zT} {I : Nat → Nat → Int} {P : Nat → Nat → Option Nat} {G : Nat → Nat → Int} {K : List zV → zH → Prop} {i : Int} (hL : L ≤ 3072) (h0 : 0 ≤ i) (h1 : i + 6 ≤ L) (h : zLw i n sl T I P) (hB : ∀ (n2 sl2 : Nat) (T2 : Nat → zT) (I2 : Nat → Nat → Int) (P2 : Nat → Nat → Option Nat) (G2 : Nat → Nat → Int), zLw (i + 6) n2 sl2 T2 I2 P2 → zB zMd L xs 271 1420 [(3, .inl i), (2, .inr (.inl (some 56))), (1, .inr (.inl (some 1))), (0, .inr (.inl (some 0)))] [] (n2, sl2, T2, I2, P2, G2) K) : zB zMd L xs 271 1157 [(3, .inl i), (2, .inr (.inl (some 56))), (1, .inr (.inl (some 1))), (0, .inr (.inl (some 0)))] [] (n, sl, T, I, P, G) K := by
  have hn := h.1
  have hC := h.2.1
  have hT := h.2.2.1
  have t1 : T 1 = (1, 11, [1]) := hC 1 (by decide) (by decide)
  refine z_aload_n (pc2 := 1158) rfl rfl rfl ?_
  refine z_aload_n (pc2 := 1159) rfl rfl rfl ?_
  refine z_iload_n (pc2 := 1160) rfl rfl rfl ?_
  refine z_iconst (pc2 := 1161) rfl rfl ?_
  refine z_iadd (pc2 := 1162) rfl rfl ?_
  refine z_sald (pc2 := 1163) rfl rfl (by omega) (by omega) (by omega) (fun v1 v1e v1r => ?_)
  refine z_aload_n (pc2 := 1164) rfl rfl rfl ?_
  refine z_iload_n (pc2 := 1165) rfl rfl rfl ?_
  refine z_iconst (pc2 := 1166) rfl rfl ?_
  refine z_iadd (pc2 := 1167) rfl rfl ?_
  refine z_sald (pc2 := 1168) rfl rfl (by omega) (by omega) (by omega) (fun v2 v2e v2r => ?_)
  refine z_callV (y2 := 131) (as := [_, _]) (rest := []) (pc2 := 1171) rfl rfl rfl rfl t1 rfl ?_
  refine c_TypeRoom_page hn hC v1r v2r h.2.2.2.2.1 (fun e n2 sl2 T2 I2 P2 G2 f b => ?_)
  have t56 : T2 56 = (1, 12, [1]) := zLw_T h f.1 56 (by decide) (by decide)
  show zB _ _ _ _ _ _ [_] _ _
  refine z_pop (pc2 := 1172) rfl rfl rfl ?_
  refine z_aload_n (pc2 := 1173) rfl rfl rfl ?_
  refine z_aload_n (pc2 := 1174) rfl rfl rfl ?_
  refine z_iload_n (pc2 := 1175) rfl rfl rfl ?_
  refine z_iconst (pc2 := 1176) rfl rfl ?_
  refine z_iadd (pc2 := 1177) rfl rfl ?_
  refine z_sald (pc2 := 1178) rfl rfl (by omega) (by omega) (by omega) (fun w3 w3e w3r => ?_)
  obtain rfl : v1 = w3 := v1e.trans w3e.symm
  clear w3e w3r
  refine z_aload_n (pc2 := 1179) rfl rfl rfl ?_
  refine z_iload_n (pc2 := 1180) rfl rfl rfl ?_
  refine z_iconst (pc2 := 1181) rfl rfl ?_
  refine z_iadd (pc2 := 1182) rfl rfl ?_
  refine z_sald (pc2 := 1183) rfl rfl (by omega) (by omega) (by omega) (fun w4 w4e w4r => ?_)
  obtain rfl : v2 = w4 := v2e.trans w4e.symm
  clear w4e w4r
  refine z_callV (y2 := 254) (as := [_, _]) (rest := []) (pc2 := 1186) rfl rfl rfl rfl t56 rfl ?_
  refine m_page (zLw_T h f.1) v1r v2r  (fun e2 I3 G3 r => ?_)
  show zB _ _ _ _ _ _ [_] _ _
  refine z_pop (pc2 := 1187) rfl rfl rfl ?_
  refine z_goto (pc2 := 1420) rfl rfl ?_
  refine z_lv (lv2 := [(3, _), (2, _), (1, _), (0, _)]) ⟨rfl, rfl, rfl, rfl, trivial⟩ ?_
  exact hB _ _ _ _ _ _ (zLw_s h f (by omega) r)
set_option maxHeartbeats 8000000 in
theorem lw_26 {L : Nat} {xs : Nat → Int32} {n sl : Nat} {T : Nat → zT} {I : Nat → Nat → Int} {P : Nat → Nat → Option Nat} {G : Nat → Nat → Int} {K : List zV → zH → Prop} {i : Int} (hL : L ≤ 3072) (h0 : 0 ≤ i) (h1 : i + 6 ≤ L) (h : zLw i n sl T I P) (hB : ∀ (n2 sl2 : Nat) (T2 : Nat → zT) (I2 : Nat → Nat → Int) (P2 : Nat → Nat → Option Nat) (G2 : Nat → Nat → Int), zLw (i + 6) n2 sl2 T2 I2 P2 → zB zMd L xs 271 1420 [(3, .inl i), (2, .inr (.inl (some 56))), (1, .inr (.inl (some 1))), (0, .inr (.inl (some 0)))] [] (n2, sl2, T2, I2, P2, G2) K) : zB zMd L xs 271 1190 [(3, .inl i), (2, .inr (.inl (some 56))), (1, .inr (.inl (some 1))), (0, .inr (.inl (some 0)))] [] (n, sl, T, I, P, G) K := by
  have hn := h.1
  have hC := h.2.1
  have hT := h.2.2.1
  have t1 : T 1 = (1, 11, [1]) := hC 1 (by decide) (by decide)
  refine z_aload_n (pc2 := 1191) rfl rfl rfl ?_
  refine z_aload_n (pc2 := 1192) rfl rfl rfl ?_
  refine z_iload_n (pc2 := 1193) rfl rfl rfl ?_
  refine z_iconst (pc2 := 1194) rfl rfl ?_
  refine z_iadd (pc2 := 1195) rfl rfl ?_
  refine z_sald (pc2 := 1196) rfl rfl (by omega) (by omega) (by omega) (fun v1 v1e v1r => ?_)
  refine z_aload_n (pc2 := 1197) rfl rfl rfl ?_
  refine z_iload_n (pc2 := 1198) rfl rfl rfl ?_
  refine z_iconst (pc2 := 1199) rfl rfl ?_
  refine z_iadd (pc2 := 1200) rfl rfl ?_
  refine z_sald (pc2 := 1201) rfl rfl (by omega) (by omega) (by omega) (fun v2 v2e v2r => ?_)
  refine z_callV (y2 := 132) (as := [_, _]) (rest := []) (pc2 := 1204) rfl rfl rfl rfl t1 rfl ?_
  refine c_TypeRoom_noteOf hn hC v1r v2r h.2.2.2.2.1 (fun e n2 sl2 T2 I2 P2 G2 f b => ?_)
  have t56 : T2 56 = (1, 12, [1]) := zLw_T h f.1 56 (by decide) (by decide)
  show zB _ _ _ _ _ _ [_] _ _
  refine z_pop (pc2 := 1205) rfl rfl rfl ?_
  refine z_aload_n (pc2 := 1206) rfl rfl rfl ?_
  refine z_aload_n (pc2 := 1207) rfl rfl rfl ?_
  refine z_iload_n (pc2 := 1208) rfl rfl rfl ?_
  refine z_iconst (pc2 := 1209) rfl rfl ?_
  refine z_iadd (pc2 := 1210) rfl rfl ?_
  refine z_sald (pc2 := 1211) rfl rfl (by omega) (by omega) (by omega) (fun w3 w3e w3r => ?_)
  obtain rfl : v1 = w3 := v1e.trans w3e.symm
  clear w3e w3r
  refine z_aload_n (pc2 := 1212) rfl rfl rfl ?_
  refine z_iload_n (pc2 := 1213) rfl rfl rfl ?_
  refine z_iconst (pc2 := 1214) rfl rfl ?_
  refine z_iadd (pc2 := 1215) rfl rfl ?_
  refine z_sald (pc2 := 1216) rfl rfl (by omega) (by omega) (by omega) (fun w4 w4e w4r => ?_)
  obtain rfl : v2 = w4 := v2e.trans w4e.symm
  clear w4e w4r
  refine z_callV (y2 := 255) (as := [_, _]) (rest := []) (pc2 := 1219) rfl rfl rfl rfl t56 rfl ?_
  refine m_noteOf (zLw_T h f.1) v1r v2r  (fun e2 I3 G3 r => ?_)
  show zB _ _ _ _ _ _ [_] _ _
  refine z_pop (pc2 := 1220) rfl rfl rfl ?_
  refine z_goto (pc2 := 1420) rfl rfl ?_
  refine z_lv (lv2 := [(3, _), (2, _), (1, _), (0, _)]) ⟨rfl, rfl, rfl, rfl, trivial⟩ ?_
  exact hB _ _ _ _ _ _ (zLw_s h f (by omega) r)
set_option maxHeartbeats 8000000 in
theorem lw_27 {L : Nat} {xs : Nat → Int32} {n sl : Nat} {T : Nat → zT} {I : Nat → Nat → Int} {P : Nat → Nat → Option Nat} {G : Nat → Nat → Int} {K : List zV → zH → Prop} {i : Int} (hL : L ≤ 3072) (h0 : 0 ≤ i) (h1 : i + 6 ≤ L) (h : zLw i n sl T I P) (hB : ∀ (n2 sl2 : Nat) (T2 : Nat → zT) (I2 : Nat → Nat → Int) (P2 : Nat → Nat → Option Nat) (G2 : Nat → Nat → Int), zLw (i + 6) n2 sl2 T2 I2 P2 → zB zMd L xs 271 1420 [(3, .inl i), (2, .inr (.inl (some 56))), (1, .inr (.inl (some 1))), (0, .inr (.inl (some 0)))] [] (n2, sl2, T2, I2, P2, G2) K) : zB zMd L xs 271 1223 [(3, .inl i), (2, .inr (.inl (some 56))), (1, .inr (.inl (some 1))), (0, .inr (.inl (some 0)))] [] (n, sl, T, I, P, G) K := by
  have hn := h.1
  have hC := h.2.1
  have hT := h.2.2.1
  have t1 : T 1 = (1, 11, [1]) := hC 1 (by decide) (by decide)
  refine z_aload_n (pc2 := 1224) rfl rfl rfl ?_
  refine z_callV (y2 := 133) (as := []) (rest := []) (pc2 := 1227) rfl rfl rfl rfl t1 rfl ?_
  refine c_TypeRoom_lock hn hC  h.2.2.2.2.1 (fun e n2 sl2 T2 I2 P2 G2 f b => ?_)
  have t56 : T2 56 = (1, 12, [1]) := zLw_T h f.1 56 (by decide) (by decide)
  show zB _ _ _ _ _ _ [_] _ _
  refine z_pop (pc2 := 1228) rfl rfl rfl ?_
  refine z_aload_n (pc2 := 1229) rfl rfl rfl ?_
  refine z_callV (y2 := 257) (as := []) (rest := []) (pc2 := 1232) rfl rfl rfl rfl t56 rfl ?_
  refine m_lock (zLw_T h f.1)  (zLw_R h f) (fun e2 I3 G3 r => ?_)
  show zB _ _ _ _ _ _ [_] _ _
  refine z_pop (pc2 := 1233) rfl rfl rfl ?_
  refine z_goto (pc2 := 1420) rfl rfl ?_
  refine z_lv (lv2 := [(3, _), (2, _), (1, _), (0, _)]) ⟨rfl, rfl, rfl, rfl, trivial⟩ ?_
  exact hB _ _ _ _ _ _ (zLw_s h f (by omega) r)
set_option maxHeartbeats 8000000 in
theorem lw_28 {L : Nat} {xs : Nat → Int32} {n sl : Nat} {T : Nat → zT} {I : Nat → Nat → Int} {P : Nat → Nat → Option Nat} {G : Nat → Nat → Int} {K : List zV → zH → Prop} {i : Int} (hL : L ≤ 3072) (h0 : 0 ≤ i) (h1 : i + 6 ≤ L) (h : zLw i n sl T I P) (hB : ∀ (n2 sl2 : Nat) (T2 : Nat → zT) (I2 : Nat → Nat → Int) (P2 : Nat → Nat → Option Nat) (G2 : Nat → Nat → Int), zLw (i + 6) n2 sl2 T2 I2 P2 → zB zMd L xs 271 1420 [(3, .inl i), (2, .inr (.inl (some 56))), (1, .inr (.inl (some 1))), (0, .inr (.inl (some 0)))] [] (n2, sl2, T2, I2, P2, G2) K) : zB zMd L xs 271 1236 [(3, .inl i), (2, .inr (.inl (some 56))), (1, .inr (.inl (some 1))), (0, .inr (.inl (some 0)))] [] (n, sl, T, I, P, G) K := by
  have hn := h.1
  have hC := h.2.1
  have hT := h.2.2.1
  have t1 : T 1 = (1, 11, [1]) := hC 1 (by decide) (by decide)
  refine z_aload_n (pc2 := 1237) rfl rfl rfl ?_
  refine z_aload_n (pc2 := 1238) rfl rfl rfl ?_
  refine z_iload_n (pc2 := 1239) rfl rfl rfl ?_
  refine z_iconst (pc2 := 1240) rfl rfl ?_
  refine z_iadd (pc2 := 1241) rfl rfl ?_
  refine z_sald (pc2 := 1242) rfl rfl (by omega) (by omega) (by omega) (fun v1 v1e v1r => ?_)
  refine z_callV (y2 := 134) (as := [_]) (rest := []) (pc2 := 1245) rfl rfl rfl rfl t1 rfl ?_
  refine c_TypeRoom_forme hn hC v1r h.2.2.2.2.1 (fun e n2 sl2 T2 I2 P2 G2 f b => ?_)
  have t56 : T2 56 = (1, 12, [1]) := zLw_T h f.1 56 (by decide) (by decide)
  show zB _ _ _ _ _ _ [_] _ _
  refine z_pop (pc2 := 1246) rfl rfl rfl ?_
  refine z_aload_n (pc2 := 1247) rfl rfl rfl ?_
  refine z_aload_n (pc2 := 1248) rfl rfl rfl ?_
  refine z_iload_n (pc2 := 1249) rfl rfl rfl ?_
  refine z_iconst (pc2 := 1250) rfl rfl ?_
  refine z_iadd (pc2 := 1251) rfl rfl ?_
  refine z_sald (pc2 := 1252) rfl rfl (by omega) (by omega) (by omega) (fun w2 w2e w2r => ?_)
  obtain rfl : v1 = w2 := v1e.trans w2e.symm
  clear w2e w2r
  refine z_callV (y2 := 258) (as := [_]) (rest := []) (pc2 := 1255) rfl rfl rfl rfl t56 rfl ?_
  refine m_forme (zLw_T h f.1) v1r  (fun e2 I3 G3 r => ?_)
  show zB _ _ _ _ _ _ [_] _ _
  refine z_pop (pc2 := 1256) rfl rfl rfl ?_
  refine z_goto (pc2 := 1420) rfl rfl ?_
  refine z_lv (lv2 := [(3, _), (2, _), (1, _), (0, _)]) ⟨rfl, rfl, rfl, rfl, trivial⟩ ?_
  exact hB _ _ _ _ _ _ (zLw_s h f (by omega) r)
set_option maxHeartbeats 8000000 in
theorem lw_29 {L : Nat} {xs : Nat → Int32} {n sl : Nat} {T : Nat → zT} {I : Nat → Nat → Int} {P : Nat → Nat → Option Nat} {G : Nat → Nat → Int} {K : List zV → zH → Prop} {i : Int} (hL : L ≤ 3072) (h0 : 0 ≤ i) (h1 : i + 6 ≤ L) (h : zLw i n sl T I P) (hB : ∀ (n2 sl2 : Nat) (T2 : Nat → zT) (I2 : Nat → Nat → Int) (P2 : Nat → Nat → Option Nat) (G2 : Nat → Nat → Int), zLw (i + 6) n2 sl2 T2 I2 P2 → zB zMd L xs 271 1420 [(3, .inl i), (2, .inr (.inl (some 56))), (1, .inr (.inl (some 1))), (0, .inr (.inl (some 0)))] [] (n2, sl2, T2, I2, P2, G2) K) : zB zMd L xs 271 1259 [(3, .inl i), (2, .inr (.inl (some 56))), (1, .inr (.inl (some 1))), (0, .inr (.inl (some 0)))] [] (n, sl, T, I, P, G) K := by
  have hn := h.1
  have hC := h.2.1
  have hT := h.2.2.1
  have t1 : T 1 = (1, 11, [1]) := hC 1 (by decide) (by decide)
  refine z_aload_n (pc2 := 1260) rfl rfl rfl ?_
  refine z_aload_n (pc2 := 1261) rfl rfl rfl ?_
  refine z_iload_n (pc2 := 1262) rfl rfl rfl ?_
  refine z_iconst (pc2 := 1263) rfl rfl ?_
  refine z_iadd (pc2 := 1264) rfl rfl ?_
  refine z_sald (pc2 := 1265) rfl rfl (by omega) (by omega) (by omega) (fun v1 v1e v1r => ?_)
  refine z_callV (y2 := 135) (as := [_]) (rest := []) (pc2 := 1268) rfl rfl rfl rfl t1 rfl ?_
  refine c_TypeRoom_print hn hC v1r h.2.2.2.2.1 (fun e n2 sl2 T2 I2 P2 G2 f b => ?_)
  have t56 : T2 56 = (1, 12, [1]) := zLw_T h f.1 56 (by decide) (by decide)
  show zB _ _ _ _ _ _ [_] _ _
  refine z_pop2 (pc2 := 1269) rfl rfl rfl ?_
  refine z_aload_n (pc2 := 1270) rfl rfl rfl ?_
  refine z_aload_n (pc2 := 1271) rfl rfl rfl ?_
  refine z_iload_n (pc2 := 1272) rfl rfl rfl ?_
  refine z_iconst (pc2 := 1273) rfl rfl ?_
  refine z_iadd (pc2 := 1274) rfl rfl ?_
  refine z_sald (pc2 := 1275) rfl rfl (by omega) (by omega) (by omega) (fun w2 w2e w2r => ?_)
  obtain rfl : v1 = w2 := v1e.trans w2e.symm
  clear w2e w2r
  refine z_callV (y2 := 261) (as := [_]) (rest := []) (pc2 := 1278) rfl rfl rfl rfl t56 rfl ?_
  refine m_print (zLw_T h f.1) v1r  (fun e2 I3 G3 r => ?_)
  show zB _ _ _ _ _ _ [_] _ _
  refine z_pop2 (pc2 := 1279) rfl rfl rfl ?_
  refine z_goto (pc2 := 1420) rfl rfl ?_
  refine z_lv (lv2 := [(3, _), (2, _), (1, _), (0, _)]) ⟨rfl, rfl, rfl, rfl, trivial⟩ ?_
  exact hB _ _ _ _ _ _ (zLw_s h f (by omega) r)
set_option maxHeartbeats 8000000 in
theorem lw_30 {L : Nat} {xs : Nat → Int32} {n sl : Nat} {T : Nat → zT} {I : Nat → Nat → Int} {P : Nat → Nat → Option Nat} {G : Nat → Nat → Int} {K : List zV → zH → Prop} {i : Int} (hL : L ≤ 3072) (h0 : 0 ≤ i) (h1 : i + 6 ≤ L) (h : zLw i n sl T I P) (hB : ∀ (n2 sl2 : Nat) (T2 : Nat → zT) (I2 : Nat → Nat → Int) (P2 : Nat → Nat → Option Nat) (G2 : Nat → Nat → Int), zLw (i + 6) n2 sl2 T2 I2 P2 → zB zMd L xs 271 1420 [(3, .inl i), (2, .inr (.inl (some 56))), (1, .inr (.inl (some 1))), (0, .inr (.inl (some 0)))] [] (n2, sl2, T2, I2, P2, G2) K) : zB zMd L xs 271 1282 [(3, .inl i), (2, .inr (.inl (some 56))), (1, .inr (.inl (some 1))), (0, .inr (.inl (some 0)))] [] (n, sl, T, I, P, G) K := by
  have hn := h.1
  have hC := h.2.1
  have hT := h.2.2.1
  have t1 : T 1 = (1, 11, [1]) := hC 1 (by decide) (by decide)
  refine z_aload_n (pc2 := 1283) rfl rfl rfl ?_
  refine z_aload_n (pc2 := 1284) rfl rfl rfl ?_
  refine z_iload_n (pc2 := 1285) rfl rfl rfl ?_
  refine z_iconst (pc2 := 1286) rfl rfl ?_
  refine z_iadd (pc2 := 1287) rfl rfl ?_
  refine z_sald (pc2 := 1288) rfl rfl (by omega) (by omega) (by omega) (fun v1 v1e v1r => ?_)
  refine z_callV (y2 := 136) (as := [_]) (rest := []) (pc2 := 1291) rfl rfl rfl rfl t1 rfl ?_
  refine c_TypeRoom_distribute hn hC v1r h.2.2.2.2.1 (fun e n2 sl2 T2 I2 P2 G2 f b => ?_)
  have t56 : T2 56 = (1, 12, [1]) := zLw_T h f.1 56 (by decide) (by decide)
  show zB _ _ _ _ _ _ [_] _ _
  refine z_pop (pc2 := 1292) rfl rfl rfl ?_
  refine z_aload_n (pc2 := 1293) rfl rfl rfl ?_
  refine z_aload_n (pc2 := 1294) rfl rfl rfl ?_
  refine z_iload_n (pc2 := 1295) rfl rfl rfl ?_
  refine z_iconst (pc2 := 1296) rfl rfl ?_
  refine z_iadd (pc2 := 1297) rfl rfl ?_
  refine z_sald (pc2 := 1298) rfl rfl (by omega) (by omega) (by omega) (fun w2 w2e w2r => ?_)
  obtain rfl : v1 = w2 := v1e.trans w2e.symm
  clear w2e w2r
  refine z_callV (y2 := 262) (as := [_]) (rest := []) (pc2 := 1301) rfl rfl rfl rfl t56 rfl ?_
  refine m_distribute (zLw_T h f.1) v1r (zLw_R h f) (fun e2 I3 G3 r => ?_)
  show zB _ _ _ _ _ _ [_] _ _
  refine z_pop (pc2 := 1302) rfl rfl rfl ?_
  refine z_goto (pc2 := 1420) rfl rfl ?_
  refine z_lv (lv2 := [(3, _), (2, _), (1, _), (0, _)]) ⟨rfl, rfl, rfl, rfl, trivial⟩ ?_
  exact hB _ _ _ _ _ _ (zLw_s h f (by omega) r)
set_option maxHeartbeats 8000000 in
theorem lw_31 {L : Nat} {xs : Nat → Int32} {n sl : Nat} {T : Nat → zT} {I : Nat → Nat → Int} {P : Nat → Nat → Option Nat} {G : Nat → Nat → Int} {K : List zV → zH → Prop} {i : Int} (hL : L ≤ 3072) (h0 : 0 ≤ i) (h1 : i + 6 ≤ L) (h : zLw i n sl T I P) (hB : ∀ (n2 sl2 : Nat) (T2 : Nat → zT) (I2 : Nat → Nat → Int) (P2 : Nat → Nat → Option Nat) (G2 : Nat → Nat → Int), zLw (i + 6) n2 sl2 T2 I2 P2 → zB zMd L xs 271 1420 [(3, .inl i), (2, .inr (.inl (some 56))), (1, .inr (.inl (some 1))), (0, .inr (.inl (some 0)))] [] (n2, sl2, T2, I2, P2, G2) K) : zB zMd L xs 271 1305 [(3, .inl i), (2, .inr (.inl (some 56))), (1, .inr (.inl (some 1))), (0, .inr (.inl (some 0)))] [] (n, sl, T, I, P, G) K := by
  have hn := h.1
  have hC := h.2.1
  have hT := h.2.2.1
  have t1 : T 1 = (1, 11, [1]) := hC 1 (by decide) (by decide)
  refine z_aload_n (pc2 := 1306) rfl rfl rfl ?_
  refine z_callV (y2 := 137) (as := []) (rest := []) (pc2 := 1309) rfl rfl rfl rfl t1 rfl ?_
  refine c_TypeRoom_undo hn hC  h.2.2.2.2.1 (fun e n2 sl2 T2 I2 P2 G2 f b => ?_)
  have t56 : T2 56 = (1, 12, [1]) := zLw_T h f.1 56 (by decide) (by decide)
  show zB _ _ _ _ _ _ [_] _ _
  refine z_pop (pc2 := 1310) rfl rfl rfl ?_
  refine z_aload_n (pc2 := 1311) rfl rfl rfl ?_
  refine z_callV (y2 := 263) (as := []) (rest := []) (pc2 := 1314) rfl rfl rfl rfl t56 rfl ?_
  refine m_undo (zLw_T h f.1)   (fun e2 I3 G3 r => ?_)
  show zB _ _ _ _ _ _ [_] _ _
  refine z_pop (pc2 := 1315) rfl rfl rfl ?_
  refine z_goto (pc2 := 1420) rfl rfl ?_
  refine z_lv (lv2 := [(3, _), (2, _), (1, _), (0, _)]) ⟨rfl, rfl, rfl, rfl, trivial⟩ ?_
  exact hB _ _ _ _ _ _ (zLw_s h f (by omega) r)
set_option maxHeartbeats 8000000 in
theorem lw_32 {L : Nat} {xs : Nat → Int32} {n sl : Nat} {T : Nat → zT} {I : Nat → Nat → Int} {P : Nat → Nat → Option Nat} {G : Nat → Nat → Int} {K : List zV → zH → Prop} {i : Int} (hL : L ≤ 3072) (h0 : 0 ≤ i) (h1 : i + 6 ≤ L) (h : zLw i n sl T I P) (hB : ∀ (n2 sl2 : Nat) (T2 : Nat → zT) (I2 : Nat → Nat → Int) (P2 : Nat → Nat → Option Nat) (G2 : Nat → Nat → Int), zLw (i + 6) n2 sl2 T2 I2 P2 → zB zMd L xs 271 1420 [(3, .inl i), (2, .inr (.inl (some 56))), (1, .inr (.inl (some 1))), (0, .inr (.inl (some 0)))] [] (n2, sl2, T2, I2, P2, G2) K) : zB zMd L xs 271 1318 [(3, .inl i), (2, .inr (.inl (some 56))), (1, .inr (.inl (some 1))), (0, .inr (.inl (some 0)))] [] (n, sl, T, I, P, G) K := by
  have hn := h.1
  have hC := h.2.1
  have hT := h.2.2.1
  have t1 : T 1 = (1, 11, [1]) := hC 1 (by decide) (by decide)
  refine z_aload_n (pc2 := 1319) rfl rfl rfl ?_
  refine z_callV (y2 := 138) (as := []) (rest := []) (pc2 := 1322) rfl rfl rfl rfl t1 rfl ?_
  refine c_TypeRoom_status hn hC   (fun e n2 sl2 T2 I2 P2 G2 f b => ?_)
  have t56 : T2 56 = (1, 12, [1]) := zLw_T h f.1 56 (by decide) (by decide)
  show zB _ _ _ _ _ _ [_] _ _
  refine z_pop (pc2 := 1323) rfl rfl rfl ?_
  refine z_aload_n (pc2 := 1324) rfl rfl rfl ?_
  refine z_callV (y2 := 264) (as := []) (rest := []) (pc2 := 1327) rfl rfl rfl rfl t56 rfl ?_
  refine m_status (zLw_T h f.1)   (fun e2 I3 G3 r => ?_)
  show zB _ _ _ _ _ _ [_] _ _
  refine z_pop (pc2 := 1328) rfl rfl rfl ?_
  refine z_goto (pc2 := 1420) rfl rfl ?_
  refine z_lv (lv2 := [(3, _), (2, _), (1, _), (0, _)]) ⟨rfl, rfl, rfl, rfl, trivial⟩ ?_
  exact hB _ _ _ _ _ _ (zLw_s h f (by omega) r)
set_option maxHeartbeats 8000000 in
theorem lw_33 {L : Nat} {xs : Nat → Int32} {n sl : Nat} {T : Nat → zT} {I : Nat → Nat → Int} {P : Nat → Nat → Option Nat} {G : Nat → Nat → Int} {K : List zV → zH → Prop} {i : Int} (hL : L ≤ 3072) (h0 : 0 ≤ i) (h1 : i + 6 ≤ L) (h : zLw i n sl T I P) (hB : ∀ (n2 sl2 : Nat) (T2 : Nat → zT) (I2 : Nat → Nat → Int) (P2 : Nat → Nat → Option Nat) (G2 : Nat → Nat → Int), zLw (i + 6) n2 sl2 T2 I2 P2 → zB zMd L xs 271 1420 [(3, .inl i), (2, .inr (.inl (some 56))), (1, .inr (.inl (some 1))), (0, .inr (.inl (some 0)))] [] (n2, sl2, T2, I2, P2, G2) K) : zB zMd L xs 271 1331 [(3, .inl i), (2, .inr (.inl (some 56))), (1, .inr (.inl (some 1))), (0, .inr (.inl (some 0)))] [] (n, sl, T, I, P, G) K := by
  have hn := h.1
  have hC := h.2.1
  have hT := h.2.2.1
  have t1 : T 1 = (1, 11, [1]) := hC 1 (by decide) (by decide)
  refine z_aload_n (pc2 := 1332) rfl rfl rfl ?_
  refine z_aload_n (pc2 := 1333) rfl rfl rfl ?_
  refine z_iload_n (pc2 := 1334) rfl rfl rfl ?_
  refine z_iconst (pc2 := 1335) rfl rfl ?_
  refine z_iadd (pc2 := 1336) rfl rfl ?_
  refine z_sald (pc2 := 1337) rfl rfl (by omega) (by omega) (by omega) (fun v1 v1e v1r => ?_)
  refine z_aload_n (pc2 := 1338) rfl rfl rfl ?_
  refine z_iload_n (pc2 := 1339) rfl rfl rfl ?_
  refine z_iconst (pc2 := 1340) rfl rfl ?_
  refine z_iadd (pc2 := 1341) rfl rfl ?_
  refine z_sald (pc2 := 1342) rfl rfl (by omega) (by omega) (by omega) (fun v2 v2e v2r => ?_)
  refine z_aload_n (pc2 := 1343) rfl rfl rfl ?_
  refine z_iload_n (pc2 := 1344) rfl rfl rfl ?_
  refine z_iconst (pc2 := 1345) rfl rfl ?_
  refine z_iadd (pc2 := 1346) rfl rfl ?_
  refine z_sald (pc2 := 1347) rfl rfl (by omega) (by omega) (by omega) (fun v3 v3e v3r => ?_)
  refine z_callV (y2 := 139) (as := [_, _, _]) (rest := []) (pc2 := 1350) rfl rfl rfl rfl t1 rfl ?_
  refine c_TypeRoom_left hn hC v1r v2r v3r  (fun e n2 sl2 T2 I2 P2 G2 f b => ?_)
  have t56 : T2 56 = (1, 12, [1]) := zLw_T h f.1 56 (by decide) (by decide)
  show zB _ _ _ _ _ _ [_] _ _
  refine z_pop (pc2 := 1351) rfl rfl rfl ?_
  refine z_aload_n (pc2 := 1352) rfl rfl rfl ?_
  refine z_aload_n (pc2 := 1353) rfl rfl rfl ?_
  refine z_iload_n (pc2 := 1354) rfl rfl rfl ?_
  refine z_iconst (pc2 := 1355) rfl rfl ?_
  refine z_iadd (pc2 := 1356) rfl rfl ?_
  refine z_sald (pc2 := 1357) rfl rfl (by omega) (by omega) (by omega) (fun w4 w4e w4r => ?_)
  obtain rfl : v1 = w4 := v1e.trans w4e.symm
  clear w4e w4r
  refine z_aload_n (pc2 := 1358) rfl rfl rfl ?_
  refine z_iload_n (pc2 := 1359) rfl rfl rfl ?_
  refine z_iconst (pc2 := 1360) rfl rfl ?_
  refine z_iadd (pc2 := 1361) rfl rfl ?_
  refine z_sald (pc2 := 1362) rfl rfl (by omega) (by omega) (by omega) (fun w5 w5e w5r => ?_)
  obtain rfl : v2 = w5 := v2e.trans w5e.symm
  clear w5e w5r
  refine z_aload_n (pc2 := 1363) rfl rfl rfl ?_
  refine z_iload_n (pc2 := 1364) rfl rfl rfl ?_
  refine z_iconst (pc2 := 1365) rfl rfl ?_
  refine z_iadd (pc2 := 1366) rfl rfl ?_
  refine z_sald (pc2 := 1367) rfl rfl (by omega) (by omega) (by omega) (fun w6 w6e w6r => ?_)
  obtain rfl : v3 = w6 := v3e.trans w6e.symm
  clear w6e w6r
  refine z_callV (y2 := 265) (as := [_, _, _]) (rest := []) (pc2 := 1370) rfl rfl rfl rfl t56 rfl ?_
  refine m_left (zLw_T h f.1) v1r v2r v3r  (fun e2 I3 G3 r => ?_)
  show zB _ _ _ _ _ _ [_] _ _
  refine z_pop (pc2 := 1371) rfl rfl rfl ?_
  refine z_goto (pc2 := 1420) rfl rfl ?_
  refine z_lv (lv2 := [(3, _), (2, _), (1, _), (0, _)]) ⟨rfl, rfl, rfl, rfl, trivial⟩ ?_
  exact hB _ _ _ _ _ _ (zLw_s h f (by omega) r)
set_option maxHeartbeats 8000000 in
theorem lw_34 {L : Nat} {xs : Nat → Int32} {n sl : Nat} {T : Nat → zT} {I : Nat → Nat → Int} {P : Nat → Nat → Option Nat} {G : Nat → Nat → Int} {K : List zV → zH → Prop} {i : Int} (hL : L ≤ 3072) (h0 : 0 ≤ i) (h1 : i + 6 ≤ L) (h : zLw i n sl T I P) (hB : ∀ (n2 sl2 : Nat) (T2 : Nat → zT) (I2 : Nat → Nat → Int) (P2 : Nat → Nat → Option Nat) (G2 : Nat → Nat → Int), zLw (i + 6) n2 sl2 T2 I2 P2 → zB zMd L xs 271 1420 [(3, .inl i), (2, .inr (.inl (some 56))), (1, .inr (.inl (some 1))), (0, .inr (.inl (some 0)))] [] (n2, sl2, T2, I2, P2, G2) K) : zB zMd L xs 271 1374 [(3, .inl i), (2, .inr (.inl (some 56))), (1, .inr (.inl (some 1))), (0, .inr (.inl (some 0)))] [] (n, sl, T, I, P, G) K := by
  have hn := h.1
  have hC := h.2.1
  have hT := h.2.2.1
  have t1 : T 1 = (1, 11, [1]) := hC 1 (by decide) (by decide)
  refine z_aload_n (pc2 := 1375) rfl rfl rfl ?_
  refine z_aload_n (pc2 := 1376) rfl rfl rfl ?_
  refine z_iload_n (pc2 := 1377) rfl rfl rfl ?_
  refine z_iconst (pc2 := 1378) rfl rfl ?_
  refine z_iadd (pc2 := 1379) rfl rfl ?_
  refine z_sald (pc2 := 1380) rfl rfl (by omega) (by omega) (by omega) (fun v1 v1e v1r => ?_)
  refine z_callV (y2 := 140) (as := [_]) (rest := []) (pc2 := 1383) rfl rfl rfl rfl t1 rfl ?_
  refine c_TypeRoom_trace hn hC v1r  (fun e n2 sl2 T2 I2 P2 G2 f b => ?_)
  have t56 : T2 56 = (1, 12, [1]) := zLw_T h f.1 56 (by decide) (by decide)
  show zB _ _ _ _ _ _ [_] _ _
  refine z_pop (pc2 := 1384) rfl rfl rfl ?_
  refine z_aload_n (pc2 := 1385) rfl rfl rfl ?_
  refine z_aload_n (pc2 := 1386) rfl rfl rfl ?_
  refine z_iload_n (pc2 := 1387) rfl rfl rfl ?_
  refine z_iconst (pc2 := 1388) rfl rfl ?_
  refine z_iadd (pc2 := 1389) rfl rfl ?_
  refine z_sald (pc2 := 1390) rfl rfl (by omega) (by omega) (by omega) (fun w2 w2e w2r => ?_)
  obtain rfl : v1 = w2 := v1e.trans w2e.symm
  clear w2e w2r
  refine z_callV (y2 := 266) (as := [_]) (rest := []) (pc2 := 1393) rfl rfl rfl rfl t56 rfl ?_
  refine m_trace (zLw_T h f.1) v1r  (fun e2 I3 G3 r => ?_)
  show zB _ _ _ _ _ _ [_] _ _
  refine z_pop (pc2 := 1394) rfl rfl rfl ?_
  refine z_goto (pc2 := 1420) rfl rfl ?_
  refine z_lv (lv2 := [(3, _), (2, _), (1, _), (0, _)]) ⟨rfl, rfl, rfl, rfl, trivial⟩ ?_
  exact hB _ _ _ _ _ _ (zLw_s h f (by omega) r)
set_option maxHeartbeats 8000000 in
theorem lw_35 {L : Nat} {xs : Nat → Int32} {n sl : Nat} {T : Nat → zT} {I : Nat → Nat → Int} {P : Nat → Nat → Option Nat} {G : Nat → Nat → Int} {K : List zV → zH → Prop} {i : Int} (hL : L ≤ 3072) (h0 : 0 ≤ i) (h1 : i + 6 ≤ L) (h : zLw i n sl T I P) (hB : ∀ (n2 sl2 : Nat) (T2 : Nat → zT) (I2 : Nat → Nat → Int) (P2 : Nat → Nat → Option Nat) (G2 : Nat → Nat → Int), zLw (i + 6) n2 sl2 T2 I2 P2 → zB zMd L xs 271 1420 [(3, .inl i), (2, .inr (.inl (some 56))), (1, .inr (.inl (some 1))), (0, .inr (.inl (some 0)))] [] (n2, sl2, T2, I2, P2, G2) K) : zB zMd L xs 271 1397 [(3, .inl i), (2, .inr (.inl (some 56))), (1, .inr (.inl (some 1))), (0, .inr (.inl (some 0)))] [] (n, sl, T, I, P, G) K := by
  have hn := h.1
  have hC := h.2.1
  have hT := h.2.2.1
  have t1 : T 1 = (1, 11, [1]) := hC 1 (by decide) (by decide)
  refine z_aload_n (pc2 := 1398) rfl rfl rfl ?_
  refine z_aload_n (pc2 := 1399) rfl rfl rfl ?_
  refine z_iload_n (pc2 := 1400) rfl rfl rfl ?_
  refine z_iconst (pc2 := 1401) rfl rfl ?_
  refine z_iadd (pc2 := 1402) rfl rfl ?_
  refine z_sald (pc2 := 1403) rfl rfl (by omega) (by omega) (by omega) (fun v1 v1e v1r => ?_)
  refine z_callV (y2 := 141) (as := [_]) (rest := []) (pc2 := 1406) rfl rfl rfl rfl t1 rfl ?_
  refine c_TypeRoom_told hn hC v1r  (fun e n2 sl2 T2 I2 P2 G2 f b => ?_)
  have t56 : T2 56 = (1, 12, [1]) := zLw_T h f.1 56 (by decide) (by decide)
  show zB _ _ _ _ _ _ [_] _ _
  refine z_pop (pc2 := 1407) rfl rfl rfl ?_
  refine z_aload_n (pc2 := 1408) rfl rfl rfl ?_
  refine z_aload_n (pc2 := 1409) rfl rfl rfl ?_
  refine z_iload_n (pc2 := 1410) rfl rfl rfl ?_
  refine z_iconst (pc2 := 1411) rfl rfl ?_
  refine z_iadd (pc2 := 1412) rfl rfl ?_
  refine z_sald (pc2 := 1413) rfl rfl (by omega) (by omega) (by omega) (fun w2 w2e w2r => ?_)
  obtain rfl : v1 = w2 := v1e.trans w2e.symm
  clear w2e w2r
  refine z_callV (y2 := 267) (as := [_]) (rest := []) (pc2 := 1416) rfl rfl rfl rfl t56 rfl ?_
  refine m_told (zLw_T h f.1) v1r  (fun e2 I3 G3 r => ?_)
  show zB _ _ _ _ _ _ [_] _ _
  refine z_pop (pc2 := 1417) rfl rfl rfl ?_
  refine z_goto (pc2 := 1420) rfl rfl ?_
  refine z_lv (lv2 := [(3, _), (2, _), (1, _), (0, _)]) ⟨rfl, rfl, rfl, rfl, trivial⟩ ?_
  exact hB _ _ _ _ _ _ (zLw_s h f (by omega) r)
