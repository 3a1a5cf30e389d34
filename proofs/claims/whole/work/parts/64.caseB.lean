/-! the law, case by case -/
section Case
variable {κ : K0} {b Ln : Nat} {xs : Nat → Int32} {nm : String} {hh : List (Nat × Nat × Nat × Nat)} {cells slots : Nat} {σ : Nat → Option Kd} {mi : Nat → Nat → Int32} {ml : Nat → Nat → Int64} {x m o i : Nat} {S : SS}
theorem law_11 (hI : LI σ x m o) (hX : XA mi x S) (hA : MA mi m S) (hS : SOK S) (hL : Ln ≤ 2048) (hi : i + 4 ≤ Ln) (hcc : cells + 32 ≤ 601024) (hcs : slots + 440 ≤ 7293034) (kn : KN κ (phiL κ b Ln xs nm hh) σ x m (lwL b x m o i) cells slots) : V κ (phiL κ b Ln xs nm hh) cells slots 855 (lwL b x m o i) [] (MM σ mi ml) := by
  obtain ⟨hLx, hM, ho, hxm, hmo⟩ := hI
  refine V_aload_n dL_law_855 rfl rfl ?_
  refine V_aload_n dL_law_856 rfl rfl ?_
  refine V_iload dL_law_857 rfl ?_
  refine V_iconst (v := nI 1) dL_law_859 (by decide) ?_
  refine V_iadd dL_law_860 ?_
  refine V_sld (i + 1) (nI_add i 1) (by omega) hL dL_law_861 ?_
  refine V_aload_n dL_law_862 rfl rfl ?_
  refine V_chR (ctL_edgeCount hLx hX hS ho) mhL_edgeCount lkL_176 rfl rfl (Nat.le_of_ble_eq_true rfl) ⟨⟨Nat.le_of_ble_eq_true rfl, Nat.le_of_ble_eq_true rfl⟩, by show cells + 1 ≤ 601024; omega, by show slots + 6 ≤ 7293034; omega⟩ dL_law_863 (fun m1 l1 hX1 ho1 hf1 => ?_)
  have hA1 : MA m1 m S := hA.fr hS (fun a j q1 q2 => hf1 a j (by omega))
  refine V_istore dL_law_866 (Nat.le_of_ble_eq_true rfl) ?_
  refine V_aload_n dL_law_868 rfl rfl ?_
  refine V_aload_n dL_law_869 rfl rfl ?_
  refine V_iload dL_law_870 rfl ?_
  refine V_iconst (v := nI 1) dL_law_872 (by decide) ?_
  refine V_iadd dL_law_873 ?_
  refine V_sld (i + 1) (nI_add i 1) (by omega) hL dL_law_874 ?_
  refine V_cmR (ctX6_edgeCount hM hA1 hS) mvX6_edgeCount lkL_178 hM.1 rfl rfl rfl (Nat.le_of_ble_eq_true rfl) ⟨⟨Nat.le_of_ble_eq_true rfl, Nat.le_of_ble_eq_true rfl⟩, by show cells + 1 + 0 ≤ 601024; omega, by show slots + 6 + 0 ≤ 7293034; omega⟩ dL_law_875 (fun m2 hA2 h20 hf2 => ?_)
  have hX2 := hX1.fr (fun a j q1 q2 => hf2 a j (by omega))
  refine V_istore dL_law_878 (Nat.le_of_ble_eq_true rfl) ?_
  refine V_aload_n dL_law_880 rfl rfl ?_
  refine V_cv1 (ctX6_thrown hM h20) mvX6_thrown lkL_138 hM.1 rfl rfl rfl (Nat.le_of_ble_eq_true rfl) ⟨⟨Nat.le_of_ble_eq_true rfl, Nat.le_of_ble_eq_true rfl⟩, by show cells + 1 + 0 ≤ 601024; omega, by show slots + 6 + 0 ≤ 7293034; omega⟩ dL_law_881 ?_
  refine V_iload dL_law_884 rfl ?_
  refine V_icmp_eq 891 dL_law_886 (by decide) (fun _ => ?_) (fun hne => absurd rfl hne)
  refine V_iload dL_law_891 rfl ?_
  refine V_if_ne 908 dL_law_893 (by decide) (fun _ => ?_) (fun hz0 => ?_)
  · refine V_goto 2556 dL_law_908 (by decide) ?_
    refine V.less9 ?_
    refine V.widen (k := cells + 32) (n := slots + 440) (by omega) (by omega) ?_
    exact kn _ m2 l1 (sk_edgeCount hS) hX2 hA2
  · have h0 := nI_k0 hz0 (Nat.le_trans rk_edgeCount (by decide))
    refine V_aload_n dL_law_896 rfl rfl ?_
    refine V_iconst (v := nI 0) dL_law_897 (by decide) ?_
    refine V_laldN ho 0 rfl (by decide) (by decide) dL_law_898 ?_
    refine V_iload dL_law_899 rfl ?_
    refine V_i2l dL_law_901 ?_
    refine V_lcmp dL_law_902 ?_
    refine V_if_eq 908 dL_law_903 (by decide) (fun _ => ?_) (fun hne => absurd ((lg_cmp_eq _ _).mpr (ho1 h0)) hne)
    refine V_goto 2556 dL_law_908 (by decide) ?_
    refine V.less9 ?_
    refine V.widen (k := cells + 32) (n := slots + 440) (by omega) (by omega) ?_
    exact kn _ m2 l1 (sk_edgeCount hS) hX2 hA2
theorem law_12 (hI : LI σ x m o) (hX : XA mi x S) (hA : MA mi m S) (hS : SOK S) (hL : Ln ≤ 2048) (hi : i + 4 ≤ Ln) (hcc : cells + 32 ≤ 601024) (hcs : slots + 440 ≤ 7293034) (kn : KN κ (phiL κ b Ln xs nm hh) σ x m (lwL b x m o i) cells slots) : V κ (phiL κ b Ln xs nm hh) cells slots 911 (lwL b x m o i) [] (MM σ mi ml) := by
  obtain ⟨hLx, hM, ho, hxm, hmo⟩ := hI
  refine V_aload_n dL_law_911 rfl rfl ?_
  refine V_aload_n dL_law_912 rfl rfl ?_
  refine V_iload dL_law_913 rfl ?_
  refine V_iconst (v := nI 1) dL_law_915 (by decide) ?_
  refine V_iadd dL_law_916 ?_
  refine V_sld (i + 1) (nI_add i 1) (by omega) hL dL_law_917 ?_
  refine V_aload_n dL_law_918 rfl rfl ?_
  refine V_iload dL_law_919 rfl ?_
  refine V_iconst (v := nI 2) dL_law_921 (by decide) ?_
  refine V_iadd dL_law_922 ?_
  refine V_sld (i + 2) (nI_add i 2) (by omega) hL dL_law_923 ?_
  refine V_aload_n dL_law_924 rfl rfl ?_
  refine V_chR (ctL_target hLx hX hS ho) mhL_target lkL_179 rfl rfl (Nat.le_of_ble_eq_true rfl) ⟨⟨Nat.le_of_ble_eq_true rfl, Nat.le_of_ble_eq_true rfl⟩, by show cells + 1 ≤ 601024; omega, by show slots + 6 ≤ 7293034; omega⟩ dL_law_925 (fun m1 l1 hX1 ho1 hf1 => ?_)
  have hA1 : MA m1 m S := hA.fr hS (fun a j q1 q2 => hf1 a j (by omega))
  refine V_istore dL_law_928 (Nat.le_of_ble_eq_true rfl) ?_
  refine V_aload_n dL_law_930 rfl rfl ?_
  refine V_aload_n dL_law_931 rfl rfl ?_
  refine V_iload dL_law_932 rfl ?_
  refine V_iconst (v := nI 1) dL_law_934 (by decide) ?_
  refine V_iadd dL_law_935 ?_
  refine V_sld (i + 1) (nI_add i 1) (by omega) hL dL_law_936 ?_
  refine V_aload_n dL_law_937 rfl rfl ?_
  refine V_iload dL_law_938 rfl ?_
  refine V_iconst (v := nI 2) dL_law_940 (by decide) ?_
  refine V_iadd dL_law_941 ?_
  refine V_sld (i + 2) (nI_add i 2) (by omega) hL dL_law_942 ?_
  refine V_cmR (ctX6_target hM hA1 hS) mvX6_target lkL_181 hM.1 rfl rfl rfl (Nat.le_of_ble_eq_true rfl) ⟨⟨Nat.le_of_ble_eq_true rfl, Nat.le_of_ble_eq_true rfl⟩, by show cells + 1 + 0 ≤ 601024; omega, by show slots + 6 + 0 ≤ 7293034; omega⟩ dL_law_943 (fun m2 hA2 h20 hf2 => ?_)
  have hX2 := hX1.fr (fun a j q1 q2 => hf2 a j (by omega))
  refine V_istore dL_law_946 (Nat.le_of_ble_eq_true rfl) ?_
  refine V_aload_n dL_law_948 rfl rfl ?_
  refine V_cv1 (ctX6_thrown hM h20) mvX6_thrown lkL_138 hM.1 rfl rfl rfl (Nat.le_of_ble_eq_true rfl) ⟨⟨Nat.le_of_ble_eq_true rfl, Nat.le_of_ble_eq_true rfl⟩, by show cells + 1 + 0 ≤ 601024; omega, by show slots + 6 + 0 ≤ 7293034; omega⟩ dL_law_949 ?_
  refine V_iload dL_law_952 rfl ?_
  refine V_icmp_eq 959 dL_law_954 (by decide) (fun _ => ?_) (fun hne => absurd rfl hne)
  refine V_iload dL_law_959 rfl ?_
  refine V_if_ne 976 dL_law_961 (by decide) (fun _ => ?_) (fun hz0 => ?_)
  · refine V_goto 2556 dL_law_976 (by decide) ?_
    refine V.less9 ?_
    refine V.widen (k := cells + 32) (n := slots + 440) (by omega) (by omega) ?_
    exact kn _ m2 l1 (sk_target hS) hX2 hA2
  · have h0 := nI_k0 hz0 (Nat.le_trans rk_target (by decide))
    refine V_aload_n dL_law_964 rfl rfl ?_
    refine V_iconst (v := nI 0) dL_law_965 (by decide) ?_
    refine V_laldN ho 0 rfl (by decide) (by decide) dL_law_966 ?_
    refine V_iload dL_law_967 rfl ?_
    refine V_i2l dL_law_969 ?_
    refine V_lcmp dL_law_970 ?_
    refine V_if_eq 976 dL_law_971 (by decide) (fun _ => ?_) (fun hne => absurd ((lg_cmp_eq _ _).mpr (ho1 h0)) hne)
    refine V_goto 2556 dL_law_976 (by decide) ?_
    refine V.less9 ?_
    refine V.widen (k := cells + 32) (n := slots + 440) (by omega) (by omega) ?_
    exact kn _ m2 l1 (sk_target hS) hX2 hA2
theorem law_13 (hI : LI σ x m o) (hX : XA mi x S) (hA : MA mi m S) (hS : SOK S) (hL : Ln ≤ 2048) (hi : i + 4 ≤ Ln) (hcc : cells + 32 ≤ 601024) (hcs : slots + 440 ≤ 7293034) (kn : KN κ (phiL κ b Ln xs nm hh) σ x m (lwL b x m o i) cells slots) : V κ (phiL κ b Ln xs nm hh) cells slots 979 (lwL b x m o i) [] (MM σ mi ml) := by
  obtain ⟨hLx, hM, ho, hxm, hmo⟩ := hI
  refine V_aload_n dL_law_979 rfl rfl ?_
  refine V_aload_n dL_law_980 rfl rfl ?_
  refine V_iload dL_law_981 rfl ?_
  refine V_iconst (v := nI 1) dL_law_983 (by decide) ?_
  refine V_iadd dL_law_984 ?_
  refine V_sld (i + 1) (nI_add i 1) (by omega) hL dL_law_985 ?_
  refine V_aload_n dL_law_986 rfl rfl ?_
  refine V_chR (ctL_isReachable hLx hX hS ho) mhL_isReachable lkL_182 rfl rfl (Nat.le_of_ble_eq_true rfl) ⟨⟨Nat.le_of_ble_eq_true rfl, Nat.le_of_ble_eq_true rfl⟩, by show cells + 1 ≤ 601024; omega, by show slots + 6 ≤ 7293034; omega⟩ dL_law_987 (fun m1 l1 hX1 ho1 hf1 => ?_)
  have hA1 : MA m1 m S := hA.fr hS (fun a j q1 q2 => hf1 a j (by omega))
  refine V_istore dL_law_990 (Nat.le_of_ble_eq_true rfl) ?_
  refine V_aload_n dL_law_992 rfl rfl ?_
  refine V_aload_n dL_law_993 rfl rfl ?_
  refine V_iload dL_law_994 rfl ?_
  refine V_iconst (v := nI 1) dL_law_996 (by decide) ?_
  refine V_iadd dL_law_997 ?_
  refine V_sld (i + 1) (nI_add i 1) (by omega) hL dL_law_998 ?_
  refine V_cmR (ctX6_isReachable hM hA1 hS) mvX6_isReachable lkL_184 hM.1 rfl rfl rfl (Nat.le_of_ble_eq_true rfl) ⟨⟨Nat.le_of_ble_eq_true rfl, Nat.le_of_ble_eq_true rfl⟩, by show cells + 1 + 0 ≤ 601024; omega, by show slots + 6 + 0 ≤ 7293034; omega⟩ dL_law_999 (fun m2 hA2 h20 hf2 => ?_)
  have hX2 := hX1.fr (fun a j q1 q2 => hf2 a j (by omega))
  refine V_istore dL_law_1002 (Nat.le_of_ble_eq_true rfl) ?_
  refine V_aload_n dL_law_1004 rfl rfl ?_
  refine V_cv1 (ctX6_thrown hM h20) mvX6_thrown lkL_138 hM.1 rfl rfl rfl (Nat.le_of_ble_eq_true rfl) ⟨⟨Nat.le_of_ble_eq_true rfl, Nat.le_of_ble_eq_true rfl⟩, by show cells + 1 + 0 ≤ 601024; omega, by show slots + 6 + 0 ≤ 7293034; omega⟩ dL_law_1005 ?_
  refine V_iload dL_law_1008 rfl ?_
  refine V_icmp_eq 1015 dL_law_1010 (by decide) (fun _ => ?_) (fun hne => absurd rfl hne)
  refine V_iload dL_law_1015 rfl ?_
  refine V_if_ne 1039 dL_law_1017 (by decide) (fun _ => ?_) (fun hz0 => ?_)
  · refine V_goto 2556 dL_law_1039 (by decide) ?_
    refine V.less9 ?_
    refine V.widen (k := cells + 32) (n := slots + 440) (by omega) (by omega) ?_
    exact kn _ m2 l1 (sk_isReachable hS) hX2 hA2
  · have h0 := nI_k0 hz0 (Nat.le_trans rk_isReachable (by decide))
    refine V_aload_n dL_law_1020 rfl rfl ?_
    refine V_iconst (v := nI 0) dL_law_1021 (by decide) ?_
    refine V_laldN ho 0 rfl (by decide) (by decide) dL_law_1022 ?_
    refine V_iload dL_law_1023 rfl ?_
    refine V_if_eq 1032 dL_law_1025 (by decide) (fun hv => ?_) (fun hv => ?_)
    · refine V_lconst (v := 0) dL_law_1032 (by decide) ?_
      refine V_lcmp dL_law_1033 ?_
      refine V_if_eq 1039 dL_law_1034 (by decide) (fun _ => ?_) (fun hne => absurd ((lg_cmp_eq _ _).mpr ((ho1 h0).trans (if_pos hv))) hne)
      refine V_goto 2556 dL_law_1039 (by decide) ?_
      refine V.less9 ?_
      refine V.widen (k := cells + 32) (n := slots + 440) (by omega) (by omega) ?_
      exact kn _ m2 l1 (sk_isReachable hS) hX2 hA2
    · refine V_lconst (v := 1) dL_law_1028 (by decide) ?_
      refine V_goto 1033 dL_law_1029 (by decide) ?_
      refine V_lcmp dL_law_1033 ?_
      refine V_if_eq 1039 dL_law_1034 (by decide) (fun _ => ?_) (fun hne => absurd ((lg_cmp_eq _ _).mpr ((ho1 h0).trans (if_neg hv))) hne)
      refine V_goto 2556 dL_law_1039 (by decide) ?_
      refine V.less9 ?_
      refine V.widen (k := cells + 32) (n := slots + 440) (by omega) (by omega) ?_
      exact kn _ m2 l1 (sk_isReachable hS) hX2 hA2
theorem law_14 (hI : LI σ x m o) (hX : XA mi x S) (hA : MA mi m S) (hS : SOK S) (hL : Ln ≤ 2048) (hi : i + 4 ≤ Ln) (hcc : cells + 32 ≤ 601024) (hcs : slots + 440 ≤ 7293034) (kn : KN κ (phiL κ b Ln xs nm hh) σ x m (lwL b x m o i) cells slots) : V κ (phiL κ b Ln xs nm hh) cells slots 1042 (lwL b x m o i) [] (MM σ mi ml) := by
  obtain ⟨hLx, hM, ho, hxm, hmo⟩ := hI
  refine V_aload_n dL_law_1042 rfl rfl ?_
  refine V_aload_n dL_law_1043 rfl rfl ?_
  refine V_iload dL_law_1044 rfl ?_
  refine V_iconst (v := nI 1) dL_law_1046 (by decide) ?_
  refine V_iadd dL_law_1047 ?_
  refine V_sld (i + 1) (nI_add i 1) (by omega) hL dL_law_1048 ?_
  refine V_aload_n dL_law_1049 rfl rfl ?_
  refine V_chR (ctL_predecessors hLx hX hS ho) mhL_predecessors lkL_185 rfl rfl (Nat.le_of_ble_eq_true rfl) ⟨⟨Nat.le_of_ble_eq_true rfl, Nat.le_of_ble_eq_true rfl⟩, by show cells + 1 ≤ 601024; omega, by show slots + 6 ≤ 7293034; omega⟩ dL_law_1050 (fun m1 l1 hX1 ho1 hf1 => ?_)
  have hA1 : MA m1 m S := hA.fr hS (fun a j q1 q2 => hf1 a j (by omega))
  refine V_istore dL_law_1053 (Nat.le_of_ble_eq_true rfl) ?_
  refine V_aload_n dL_law_1055 rfl rfl ?_
  refine V_aload_n dL_law_1056 rfl rfl ?_
  refine V_iload dL_law_1057 rfl ?_
  refine V_iconst (v := nI 1) dL_law_1059 (by decide) ?_
  refine V_iadd dL_law_1060 ?_
  refine V_sld (i + 1) (nI_add i 1) (by omega) hL dL_law_1061 ?_
  refine V_cmR (ctX6_predecessors hM hA1 hS) mvX6_predecessors lkL_187 hM.1 rfl rfl rfl (Nat.le_of_ble_eq_true rfl) ⟨⟨Nat.le_of_ble_eq_true rfl, Nat.le_of_ble_eq_true rfl⟩, by show cells + 1 + 0 ≤ 601024; omega, by show slots + 6 + 0 ≤ 7293034; omega⟩ dL_law_1062 (fun m2 hA2 h20 hf2 => ?_)
  have hX2 := hX1.fr (fun a j q1 q2 => hf2 a j (by omega))
  refine V_istore dL_law_1065 (Nat.le_of_ble_eq_true rfl) ?_
  refine V_aload_n dL_law_1067 rfl rfl ?_
  refine V_cv1 (ctX6_thrown hM h20) mvX6_thrown lkL_138 hM.1 rfl rfl rfl (Nat.le_of_ble_eq_true rfl) ⟨⟨Nat.le_of_ble_eq_true rfl, Nat.le_of_ble_eq_true rfl⟩, by show cells + 1 + 0 ≤ 601024; omega, by show slots + 6 + 0 ≤ 7293034; omega⟩ dL_law_1068 ?_
  refine V_iload dL_law_1071 rfl ?_
  refine V_icmp_eq 1078 dL_law_1073 (by decide) (fun _ => ?_) (fun hne => absurd rfl hne)
  refine V_iload dL_law_1078 rfl ?_
  refine V_if_ne 1095 dL_law_1080 (by decide) (fun _ => ?_) (fun hz0 => ?_)
  · refine V_goto 2556 dL_law_1095 (by decide) ?_
    refine V.less9 ?_
    refine V.widen (k := cells + 32) (n := slots + 440) (by omega) (by omega) ?_
    exact kn _ m2 l1 (sk_predecessors hS) hX2 hA2
  · have h0 := nI_k0 hz0 (Nat.le_trans rk_predecessors (by decide))
    refine V_aload_n dL_law_1083 rfl rfl ?_
    refine V_iconst (v := nI 0) dL_law_1084 (by decide) ?_
    refine V_laldN ho 0 rfl (by decide) (by decide) dL_law_1085 ?_
    refine V_iload dL_law_1086 rfl ?_
    refine V_i2l dL_law_1088 ?_
    refine V_lcmp dL_law_1089 ?_
    refine V_if_eq 1095 dL_law_1090 (by decide) (fun _ => ?_) (fun hne => absurd ((lg_cmp_eq _ _).mpr (ho1 h0)) hne)
    refine V_goto 2556 dL_law_1095 (by decide) ?_
    refine V.less9 ?_
    refine V.widen (k := cells + 32) (n := slots + 440) (by omega) (by omega) ?_
    exact kn _ m2 l1 (sk_predecessors hS) hX2 hA2
theorem law_15 (hI : LI σ x m o) (hX : XA mi x S) (hA : MA mi m S) (hS : SOK S) (hL : Ln ≤ 2048) (hi : i + 4 ≤ Ln) (hcc : cells + 32 ≤ 601024) (hcs : slots + 440 ≤ 7293034) (kn : KN κ (phiL κ b Ln xs nm hh) σ x m (lwL b x m o i) cells slots) : V κ (phiL κ b Ln xs nm hh) cells slots 1098 (lwL b x m o i) [] (MM σ mi ml) := by
  obtain ⟨hLx, hM, ho, hxm, hmo⟩ := hI
  refine V_aload_n dL_law_1098 rfl rfl ?_
  refine V_aload_n dL_law_1099 rfl rfl ?_
  refine V_iload dL_law_1100 rfl ?_
  refine V_iconst (v := nI 1) dL_law_1102 (by decide) ?_
  refine V_iadd dL_law_1103 ?_
  refine V_sld (i + 1) (nI_add i 1) (by omega) hL dL_law_1104 ?_
  refine V_aload_n dL_law_1105 rfl rfl ?_
  refine V_iload dL_law_1106 rfl ?_
  refine V_iconst (v := nI 2) dL_law_1108 (by decide) ?_
  refine V_iadd dL_law_1109 ?_
  refine V_sld (i + 2) (nI_add i 2) (by omega) hL dL_law_1110 ?_
  refine V_aload_n dL_law_1111 rfl rfl ?_
  refine V_chR (ctL_dominates hLx hX hS ho) mhL_dominates lkL_188 rfl rfl (Nat.le_of_ble_eq_true rfl) ⟨⟨Nat.le_of_ble_eq_true rfl, Nat.le_of_ble_eq_true rfl⟩, by show cells + 1 ≤ 601024; omega, by show slots + 6 ≤ 7293034; omega⟩ dL_law_1112 (fun m1 l1 hX1 ho1 hf1 => ?_)
  have hA1 : MA m1 m S := hA.fr hS (fun a j q1 q2 => hf1 a j (by omega))
  refine V_istore dL_law_1115 (Nat.le_of_ble_eq_true rfl) ?_
  refine V_aload_n dL_law_1117 rfl rfl ?_
  refine V_aload_n dL_law_1118 rfl rfl ?_
  refine V_iload dL_law_1119 rfl ?_
  refine V_iconst (v := nI 1) dL_law_1121 (by decide) ?_
  refine V_iadd dL_law_1122 ?_
  refine V_sld (i + 1) (nI_add i 1) (by omega) hL dL_law_1123 ?_
  refine V_aload_n dL_law_1124 rfl rfl ?_
  refine V_iload dL_law_1125 rfl ?_
  refine V_iconst (v := nI 2) dL_law_1127 (by decide) ?_
  refine V_iadd dL_law_1128 ?_
  refine V_sld (i + 2) (nI_add i 2) (by omega) hL dL_law_1129 ?_
  refine V_cmR (ctX6_dominates hM hA1 hS) mvX6_dominates lkL_190 hM.1 rfl rfl rfl (Nat.le_of_ble_eq_true rfl) ⟨⟨Nat.le_of_ble_eq_true rfl, Nat.le_of_ble_eq_true rfl⟩, by show cells + 1 + 0 ≤ 601024; omega, by show slots + 6 + 0 ≤ 7293034; omega⟩ dL_law_1130 (fun m2 hA2 h20 hf2 => ?_)
  have hX2 := hX1.fr (fun a j q1 q2 => hf2 a j (by omega))
  refine V_istore dL_law_1133 (Nat.le_of_ble_eq_true rfl) ?_
  refine V_aload_n dL_law_1135 rfl rfl ?_
  refine V_cv1 (ctX6_thrown hM h20) mvX6_thrown lkL_138 hM.1 rfl rfl rfl (Nat.le_of_ble_eq_true rfl) ⟨⟨Nat.le_of_ble_eq_true rfl, Nat.le_of_ble_eq_true rfl⟩, by show cells + 1 + 0 ≤ 601024; omega, by show slots + 6 + 0 ≤ 7293034; omega⟩ dL_law_1136 ?_
  refine V_iload dL_law_1139 rfl ?_
  refine V_icmp_eq 1146 dL_law_1141 (by decide) (fun _ => ?_) (fun hne => absurd rfl hne)
  refine V_iload dL_law_1146 rfl ?_
  refine V_if_ne 1170 dL_law_1148 (by decide) (fun _ => ?_) (fun hz0 => ?_)
  · refine V_goto 2556 dL_law_1170 (by decide) ?_
    refine V.less9 ?_
    refine V.widen (k := cells + 32) (n := slots + 440) (by omega) (by omega) ?_
    exact kn _ m2 l1 (sk_dominates hS) hX2 hA2
  · have h0 := nI_k0 hz0 (Nat.le_trans rk_dominates (by decide))
    refine V_aload_n dL_law_1151 rfl rfl ?_
    refine V_iconst (v := nI 0) dL_law_1152 (by decide) ?_
    refine V_laldN ho 0 rfl (by decide) (by decide) dL_law_1153 ?_
    refine V_iload dL_law_1154 rfl ?_
    refine V_if_eq 1163 dL_law_1156 (by decide) (fun hv => ?_) (fun hv => ?_)
    · refine V_lconst (v := 0) dL_law_1163 (by decide) ?_
      refine V_lcmp dL_law_1164 ?_
      refine V_if_eq 1170 dL_law_1165 (by decide) (fun _ => ?_) (fun hne => absurd ((lg_cmp_eq _ _).mpr ((ho1 h0).trans (if_pos hv))) hne)
      refine V_goto 2556 dL_law_1170 (by decide) ?_
      refine V.less9 ?_
      refine V.widen (k := cells + 32) (n := slots + 440) (by omega) (by omega) ?_
      exact kn _ m2 l1 (sk_dominates hS) hX2 hA2
    · refine V_lconst (v := 1) dL_law_1159 (by decide) ?_
      refine V_goto 1164 dL_law_1160 (by decide) ?_
      refine V_lcmp dL_law_1164 ?_
      refine V_if_eq 1170 dL_law_1165 (by decide) (fun _ => ?_) (fun hne => absurd ((lg_cmp_eq _ _).mpr ((ho1 h0).trans (if_neg hv))) hne)
      refine V_goto 2556 dL_law_1170 (by decide) ?_
      refine V.less9 ?_
      refine V.widen (k := cells + 32) (n := slots + 440) (by omega) (by omega) ?_
      exact kn _ m2 l1 (sk_dominates hS) hX2 hA2
theorem law_16 (hI : LI σ x m o) (hX : XA mi x S) (hA : MA mi m S) (hS : SOK S) (hL : Ln ≤ 2048) (hi : i + 4 ≤ Ln) (hcc : cells + 32 ≤ 601024) (hcs : slots + 440 ≤ 7293034) (kn : KN κ (phiL κ b Ln xs nm hh) σ x m (lwL b x m o i) cells slots) : V κ (phiL κ b Ln xs nm hh) cells slots 1173 (lwL b x m o i) [] (MM σ mi ml) := by
  obtain ⟨hLx, hM, ho, hxm, hmo⟩ := hI
  refine V_aload_n dL_law_1173 rfl rfl ?_
  refine V_aload_n dL_law_1174 rfl rfl ?_
  refine V_iload dL_law_1175 rfl ?_
  refine V_iconst (v := nI 1) dL_law_1177 (by decide) ?_
  refine V_iadd dL_law_1178 ?_
  refine V_sld (i + 1) (nI_add i 1) (by omega) hL dL_law_1179 ?_
  refine V_aload_n dL_law_1180 rfl rfl ?_
  refine V_chR (ctL_parent hLx hX hS ho) mhL_parent lkL_191 rfl rfl (Nat.le_of_ble_eq_true rfl) ⟨⟨Nat.le_of_ble_eq_true rfl, Nat.le_of_ble_eq_true rfl⟩, by show cells + 1 ≤ 601024; omega, by show slots + 6 ≤ 7293034; omega⟩ dL_law_1181 (fun m1 l1 hX1 ho1 hf1 => ?_)
  have hA1 : MA m1 m S := hA.fr hS (fun a j q1 q2 => hf1 a j (by omega))
  refine V_istore dL_law_1184 (Nat.le_of_ble_eq_true rfl) ?_
  refine V_aload_n dL_law_1186 rfl rfl ?_
  refine V_aload_n dL_law_1187 rfl rfl ?_
  refine V_iload dL_law_1188 rfl ?_
  refine V_iconst (v := nI 1) dL_law_1190 (by decide) ?_
  refine V_iadd dL_law_1191 ?_
  refine V_sld (i + 1) (nI_add i 1) (by omega) hL dL_law_1192 ?_
  refine V_cmR (ctX6_parent hM hA1 hS) mvX6_parent lkL_193 hM.1 rfl rfl rfl (Nat.le_of_ble_eq_true rfl) ⟨⟨Nat.le_of_ble_eq_true rfl, Nat.le_of_ble_eq_true rfl⟩, by show cells + 1 + 0 ≤ 601024; omega, by show slots + 6 + 0 ≤ 7293034; omega⟩ dL_law_1193 (fun m2 hA2 h20 hf2 => ?_)
  have hX2 := hX1.fr (fun a j q1 q2 => hf2 a j (by omega))
  refine V_istore dL_law_1196 (Nat.le_of_ble_eq_true rfl) ?_
  refine V_aload_n dL_law_1198 rfl rfl ?_
  refine V_cv1 (ctX6_thrown hM h20) mvX6_thrown lkL_138 hM.1 rfl rfl rfl (Nat.le_of_ble_eq_true rfl) ⟨⟨Nat.le_of_ble_eq_true rfl, Nat.le_of_ble_eq_true rfl⟩, by show cells + 1 + 0 ≤ 601024; omega, by show slots + 6 + 0 ≤ 7293034; omega⟩ dL_law_1199 ?_
  refine V_iload dL_law_1202 rfl ?_
  refine V_icmp_eq 1209 dL_law_1204 (by decide) (fun _ => ?_) (fun hne => absurd rfl hne)
  refine V_iload dL_law_1209 rfl ?_
  refine V_if_ne 1226 dL_law_1211 (by decide) (fun _ => ?_) (fun hz0 => ?_)
  · refine V_goto 2556 dL_law_1226 (by decide) ?_
    refine V.less9 ?_
    refine V.widen (k := cells + 32) (n := slots + 440) (by omega) (by omega) ?_
    exact kn _ m2 l1 (sk_parent hS) hX2 hA2
  · have h0 := nI_k0 hz0 (Nat.le_trans rk_parent (by decide))
    refine V_aload_n dL_law_1214 rfl rfl ?_
    refine V_iconst (v := nI 0) dL_law_1215 (by decide) ?_
    refine V_laldN ho 0 rfl (by decide) (by decide) dL_law_1216 ?_
    refine V_iload dL_law_1217 rfl ?_
    refine V_i2l dL_law_1219 ?_
    refine V_lcmp dL_law_1220 ?_
    refine V_if_eq 1226 dL_law_1221 (by decide) (fun _ => ?_) (fun hne => absurd ((lg_cmp_eq _ _).mpr (ho1 h0)) hne)
    refine V_goto 2556 dL_law_1226 (by decide) ?_
    refine V.less9 ?_
    refine V.widen (k := cells + 32) (n := slots + 440) (by omega) (by omega) ?_
    exact kn _ m2 l1 (sk_parent hS) hX2 hA2
theorem law_17 (hI : LI σ x m o) (hX : XA mi x S) (hA : MA mi m S) (hS : SOK S) (hL : Ln ≤ 2048) (hi : i + 4 ≤ Ln) (hcc : cells + 32 ≤ 601024) (hcs : slots + 440 ≤ 7293034) (kn : KN κ (phiL κ b Ln xs nm hh) σ x m (lwL b x m o i) cells slots) : V κ (phiL κ b Ln xs nm hh) cells slots 1229 (lwL b x m o i) [] (MM σ mi ml) := by
  obtain ⟨hLx, hM, ho, hxm, hmo⟩ := hI
  refine V_aload_n dL_law_1229 rfl rfl ?_
  refine V_aload_n dL_law_1230 rfl rfl ?_
  refine V_iload dL_law_1231 rfl ?_
  refine V_iconst (v := nI 1) dL_law_1233 (by decide) ?_
  refine V_iadd dL_law_1234 ?_
  refine V_sld (i + 1) (nI_add i 1) (by omega) hL dL_law_1235 ?_
  refine V_aload_n dL_law_1236 rfl rfl ?_
  refine V_chR (ctL_frontier hLx hX hS ho) mhL_frontier lkL_194 rfl rfl (Nat.le_of_ble_eq_true rfl) ⟨⟨Nat.le_of_ble_eq_true rfl, Nat.le_of_ble_eq_true rfl⟩, by show cells + 1 ≤ 601024; omega, by show slots + 6 ≤ 7293034; omega⟩ dL_law_1237 (fun m1 l1 hX1 ho1 hf1 => ?_)
  have hA1 : MA m1 m S := hA.fr hS (fun a j q1 q2 => hf1 a j (by omega))
  refine V_istore dL_law_1240 (Nat.le_of_ble_eq_true rfl) ?_
  refine V_aload_n dL_law_1242 rfl rfl ?_
  refine V_aload_n dL_law_1243 rfl rfl ?_
  refine V_iload dL_law_1244 rfl ?_
  refine V_iconst (v := nI 1) dL_law_1246 (by decide) ?_
  refine V_iadd dL_law_1247 ?_
  refine V_sld (i + 1) (nI_add i 1) (by omega) hL dL_law_1248 ?_
  refine V_cmR (ctX6_frontier hM hA1 hS) mvX6_frontier lkL_196 hM.1 rfl rfl rfl (Nat.le_of_ble_eq_true rfl) ⟨⟨Nat.le_of_ble_eq_true rfl, Nat.le_of_ble_eq_true rfl⟩, by show cells + 1 + 0 ≤ 601024; omega, by show slots + 6 + 0 ≤ 7293034; omega⟩ dL_law_1249 (fun m2 hA2 h20 hf2 => ?_)
  have hX2 := hX1.fr (fun a j q1 q2 => hf2 a j (by omega))
  refine V_istore dL_law_1252 (Nat.le_of_ble_eq_true rfl) ?_
  refine V_aload_n dL_law_1254 rfl rfl ?_
  refine V_cv1 (ctX6_thrown hM h20) mvX6_thrown lkL_138 hM.1 rfl rfl rfl (Nat.le_of_ble_eq_true rfl) ⟨⟨Nat.le_of_ble_eq_true rfl, Nat.le_of_ble_eq_true rfl⟩, by show cells + 1 + 0 ≤ 601024; omega, by show slots + 6 + 0 ≤ 7293034; omega⟩ dL_law_1255 ?_
  refine V_iload dL_law_1258 rfl ?_
  refine V_icmp_eq 1265 dL_law_1260 (by decide) (fun _ => ?_) (fun hne => absurd rfl hne)
  refine V_iload dL_law_1265 rfl ?_
  refine V_if_ne 1282 dL_law_1267 (by decide) (fun _ => ?_) (fun hz0 => ?_)
  · refine V_goto 2556 dL_law_1282 (by decide) ?_
    refine V.less9 ?_
    refine V.widen (k := cells + 32) (n := slots + 440) (by omega) (by omega) ?_
    exact kn _ m2 l1 (sk_frontier hS) hX2 hA2
  · have h0 := nI_k0 hz0 (Nat.le_trans rk_frontier (by decide))
    refine V_aload_n dL_law_1270 rfl rfl ?_
    refine V_iconst (v := nI 0) dL_law_1271 (by decide) ?_
    refine V_laldN ho 0 rfl (by decide) (by decide) dL_law_1272 ?_
    refine V_iload dL_law_1273 rfl ?_
    refine V_i2l dL_law_1275 ?_
    refine V_lcmp dL_law_1276 ?_
    refine V_if_eq 1282 dL_law_1277 (by decide) (fun _ => ?_) (fun hne => absurd ((lg_cmp_eq _ _).mpr (ho1 h0)) hne)
    refine V_goto 2556 dL_law_1282 (by decide) ?_
    refine V.less9 ?_
    refine V.widen (k := cells + 32) (n := slots + 440) (by omega) (by omega) ?_
    exact kn _ m2 l1 (sk_frontier hS) hX2 hA2
theorem law_18 (hI : LI σ x m o) (hX : XA mi x S) (hA : MA mi m S) (hS : SOK S) (hL : Ln ≤ 2048) (hi : i + 4 ≤ Ln) (hcc : cells + 32 ≤ 601024) (hcs : slots + 440 ≤ 7293034) (kn : KN κ (phiL κ b Ln xs nm hh) σ x m (lwL b x m o i) cells slots) : V κ (phiL κ b Ln xs nm hh) cells slots 1285 (lwL b x m o i) [] (MM σ mi ml) := by
  obtain ⟨hLx, hM, ho, hxm, hmo⟩ := hI
  refine V_aload_n dL_law_1285 rfl rfl ?_
  refine V_aload_n dL_law_1286 rfl rfl ?_
  refine V_iload dL_law_1287 rfl ?_
  refine V_iconst (v := nI 1) dL_law_1289 (by decide) ?_
  refine V_iadd dL_law_1290 ?_
  refine V_sld (i + 1) (nI_add i 1) (by omega) hL dL_law_1291 ?_
  refine V_aload_n dL_law_1292 rfl rfl ?_
  refine V_iload dL_law_1293 rfl ?_
  refine V_iconst (v := nI 2) dL_law_1295 (by decide) ?_
  refine V_iadd dL_law_1296 ?_
  refine V_sld (i + 2) (nI_add i 2) (by omega) hL dL_law_1297 ?_
  refine V_aload_n dL_law_1298 rfl rfl ?_
  refine V_chR (ctL_isLive hLx hX hS ho) mhL_isLive lkL_197 rfl rfl (Nat.le_of_ble_eq_true rfl) ⟨⟨Nat.le_of_ble_eq_true rfl, Nat.le_of_ble_eq_true rfl⟩, by show cells + 1 ≤ 601024; omega, by show slots + 6 ≤ 7293034; omega⟩ dL_law_1299 (fun m1 l1 hX1 ho1 hf1 => ?_)
  have hA1 : MA m1 m S := hA.fr hS (fun a j q1 q2 => hf1 a j (by omega))
  refine V_istore dL_law_1302 (Nat.le_of_ble_eq_true rfl) ?_
  refine V_aload_n dL_law_1304 rfl rfl ?_
  refine V_aload_n dL_law_1305 rfl rfl ?_
  refine V_iload dL_law_1306 rfl ?_
  refine V_iconst (v := nI 1) dL_law_1308 (by decide) ?_
  refine V_iadd dL_law_1309 ?_
  refine V_sld (i + 1) (nI_add i 1) (by omega) hL dL_law_1310 ?_
  refine V_aload_n dL_law_1311 rfl rfl ?_
  refine V_iload dL_law_1312 rfl ?_
  refine V_iconst (v := nI 2) dL_law_1314 (by decide) ?_
  refine V_iadd dL_law_1315 ?_
  refine V_sld (i + 2) (nI_add i 2) (by omega) hL dL_law_1316 ?_
  refine V_cmR (ctX6_isLive hM hA1 hS) mvX6_isLive lkL_199 hM.1 rfl rfl rfl (Nat.le_of_ble_eq_true rfl) ⟨⟨Nat.le_of_ble_eq_true rfl, Nat.le_of_ble_eq_true rfl⟩, by show cells + 1 + 0 ≤ 601024; omega, by show slots + 6 + 0 ≤ 7293034; omega⟩ dL_law_1317 (fun m2 hA2 h20 hf2 => ?_)
  have hX2 := hX1.fr (fun a j q1 q2 => hf2 a j (by omega))
  refine V_istore dL_law_1320 (Nat.le_of_ble_eq_true rfl) ?_
  refine V_aload_n dL_law_1322 rfl rfl ?_
  refine V_cv1 (ctX6_thrown hM h20) mvX6_thrown lkL_138 hM.1 rfl rfl rfl (Nat.le_of_ble_eq_true rfl) ⟨⟨Nat.le_of_ble_eq_true rfl, Nat.le_of_ble_eq_true rfl⟩, by show cells + 1 + 0 ≤ 601024; omega, by show slots + 6 + 0 ≤ 7293034; omega⟩ dL_law_1323 ?_
  refine V_iload dL_law_1326 rfl ?_
  refine V_icmp_eq 1333 dL_law_1328 (by decide) (fun _ => ?_) (fun hne => absurd rfl hne)
  refine V_iload dL_law_1333 rfl ?_
  refine V_if_ne 1357 dL_law_1335 (by decide) (fun _ => ?_) (fun hz0 => ?_)
  · refine V_goto 2556 dL_law_1357 (by decide) ?_
    refine V.less9 ?_
    refine V.widen (k := cells + 32) (n := slots + 440) (by omega) (by omega) ?_
    exact kn _ m2 l1 (sk_isLive hS) hX2 hA2
  · have h0 := nI_k0 hz0 (Nat.le_trans rk_isLive (by decide))
    refine V_aload_n dL_law_1338 rfl rfl ?_
    refine V_iconst (v := nI 0) dL_law_1339 (by decide) ?_
    refine V_laldN ho 0 rfl (by decide) (by decide) dL_law_1340 ?_
    refine V_iload dL_law_1341 rfl ?_
    refine V_if_eq 1350 dL_law_1343 (by decide) (fun hv => ?_) (fun hv => ?_)
    · refine V_lconst (v := 0) dL_law_1350 (by decide) ?_
      refine V_lcmp dL_law_1351 ?_
      refine V_if_eq 1357 dL_law_1352 (by decide) (fun _ => ?_) (fun hne => absurd ((lg_cmp_eq _ _).mpr ((ho1 h0).trans (if_pos hv))) hne)
      refine V_goto 2556 dL_law_1357 (by decide) ?_
      refine V.less9 ?_
      refine V.widen (k := cells + 32) (n := slots + 440) (by omega) (by omega) ?_
      exact kn _ m2 l1 (sk_isLive hS) hX2 hA2
    · refine V_lconst (v := 1) dL_law_1346 (by decide) ?_
      refine V_goto 1351 dL_law_1347 (by decide) ?_
      refine V_lcmp dL_law_1351 ?_
      refine V_if_eq 1357 dL_law_1352 (by decide) (fun _ => ?_) (fun hne => absurd ((lg_cmp_eq _ _).mpr ((ho1 h0).trans (if_neg hv))) hne)
      refine V_goto 2556 dL_law_1357 (by decide) ?_
      refine V.less9 ?_
      refine V.widen (k := cells + 32) (n := slots + 440) (by omega) (by omega) ?_
      exact kn _ m2 l1 (sk_isLive hS) hX2 hA2
theorem law_19 (hI : LI σ x m o) (hX : XA mi x S) (hA : MA mi m S) (hS : SOK S) (hL : Ln ≤ 2048) (hi : i + 4 ≤ Ln) (hcc : cells + 32 ≤ 601024) (hcs : slots + 440 ≤ 7293034) (kn : KN κ (phiL κ b Ln xs nm hh) σ x m (lwL b x m o i) cells slots) : V κ (phiL κ b Ln xs nm hh) cells slots 1360 (lwL b x m o i) [] (MM σ mi ml) := by
  obtain ⟨hLx, hM, ho, hxm, hmo⟩ := hI
  refine V_aload_n dL_law_1360 rfl rfl ?_
  refine V_aload_n dL_law_1361 rfl rfl ?_
  refine V_iload dL_law_1362 rfl ?_
  refine V_iconst (v := nI 1) dL_law_1364 (by decide) ?_
  refine V_iadd dL_law_1365 ?_
  refine V_sld (i + 1) (nI_add i 1) (by omega) hL dL_law_1366 ?_
  refine V_aload_n dL_law_1367 rfl rfl ?_
  refine V_chR (ctL_minimalMerges hLx hX hS ho) mhL_minimalMerges lkL_200 rfl rfl (Nat.le_of_ble_eq_true rfl) ⟨⟨Nat.le_of_ble_eq_true rfl, Nat.le_of_ble_eq_true rfl⟩, by show cells + 1 ≤ 601024; omega, by show slots + 6 ≤ 7293034; omega⟩ dL_law_1368 (fun m1 l1 hX1 ho1 hf1 => ?_)
  have hA1 : MA m1 m S := hA.fr hS (fun a j q1 q2 => hf1 a j (by omega))
  refine V_istore dL_law_1371 (Nat.le_of_ble_eq_true rfl) ?_
  refine V_aload_n dL_law_1373 rfl rfl ?_
  refine V_aload_n dL_law_1374 rfl rfl ?_
  refine V_iload dL_law_1375 rfl ?_
  refine V_iconst (v := nI 1) dL_law_1377 (by decide) ?_
  refine V_iadd dL_law_1378 ?_
  refine V_sld (i + 1) (nI_add i 1) (by omega) hL dL_law_1379 ?_
  refine V_cmR (ctX6_minimalMerges hM hA1 hS) mvX6_minimalMerges lkL_202 hM.1 rfl rfl rfl (Nat.le_of_ble_eq_true rfl) ⟨⟨Nat.le_of_ble_eq_true rfl, Nat.le_of_ble_eq_true rfl⟩, by show cells + 1 + 0 ≤ 601024; omega, by show slots + 6 + 0 ≤ 7293034; omega⟩ dL_law_1380 (fun m2 hA2 h20 hf2 => ?_)
  have hX2 := hX1.fr (fun a j q1 q2 => hf2 a j (by omega))
  refine V_istore dL_law_1383 (Nat.le_of_ble_eq_true rfl) ?_
  refine V_aload_n dL_law_1385 rfl rfl ?_
  refine V_cv1 (ctX6_thrown hM h20) mvX6_thrown lkL_138 hM.1 rfl rfl rfl (Nat.le_of_ble_eq_true rfl) ⟨⟨Nat.le_of_ble_eq_true rfl, Nat.le_of_ble_eq_true rfl⟩, by show cells + 1 + 0 ≤ 601024; omega, by show slots + 6 + 0 ≤ 7293034; omega⟩ dL_law_1386 ?_
  refine V_iload dL_law_1389 rfl ?_
  refine V_icmp_eq 1396 dL_law_1391 (by decide) (fun _ => ?_) (fun hne => absurd rfl hne)
  refine V_iload dL_law_1396 rfl ?_
  refine V_if_ne 1413 dL_law_1398 (by decide) (fun _ => ?_) (fun hz0 => ?_)
  · refine V_goto 2556 dL_law_1413 (by decide) ?_
    refine V.less9 ?_
    refine V.widen (k := cells + 32) (n := slots + 440) (by omega) (by omega) ?_
    exact kn _ m2 l1 (sk_minimalMerges hS) hX2 hA2
  · have h0 := nI_k0 hz0 (Nat.le_trans rk_minimalMerges (by decide))
    refine V_aload_n dL_law_1401 rfl rfl ?_
    refine V_iconst (v := nI 0) dL_law_1402 (by decide) ?_
    refine V_laldN ho 0 rfl (by decide) (by decide) dL_law_1403 ?_
    refine V_iload dL_law_1404 rfl ?_
    refine V_i2l dL_law_1406 ?_
    refine V_lcmp dL_law_1407 ?_
    refine V_if_eq 1413 dL_law_1408 (by decide) (fun _ => ?_) (fun hne => absurd ((lg_cmp_eq _ _).mpr (ho1 h0)) hne)
    refine V_goto 2556 dL_law_1413 (by decide) ?_
    refine V.less9 ?_
    refine V.widen (k := cells + 32) (n := slots + 440) (by omega) (by omega) ?_
    exact kn _ m2 l1 (sk_minimalMerges hS) hX2 hA2
theorem law_20 (hI : LI σ x m o) (hX : XA mi x S) (hA : MA mi m S) (hS : SOK S) (hL : Ln ≤ 2048) (hi : i + 4 ≤ Ln) (hcc : cells + 32 ≤ 601024) (hcs : slots + 440 ≤ 7293034) (kn : KN κ (phiL κ b Ln xs nm hh) σ x m (lwL b x m o i) cells slots) : V κ (phiL κ b Ln xs nm hh) cells slots 1416 (lwL b x m o i) [] (MM σ mi ml) := by
  obtain ⟨hLx, hM, ho, hxm, hmo⟩ := hI
  refine V_aload_n dL_law_1416 rfl rfl ?_
  refine V_aload_n dL_law_1417 rfl rfl ?_
  refine V_iload dL_law_1418 rfl ?_
  refine V_iconst (v := nI 1) dL_law_1420 (by decide) ?_
  refine V_iadd dL_law_1421 ?_
  refine V_sld (i + 1) (nI_add i 1) (by omega) hL dL_law_1422 ?_
  refine V_aload_n dL_law_1423 rfl rfl ?_
  refine V_chR (ctL_merges hLx hX hS ho) mhL_merges lkL_203 rfl rfl (Nat.le_of_ble_eq_true rfl) ⟨⟨Nat.le_of_ble_eq_true rfl, Nat.le_of_ble_eq_true rfl⟩, by show cells + 1 ≤ 601024; omega, by show slots + 6 ≤ 7293034; omega⟩ dL_law_1424 (fun m1 l1 hX1 ho1 hf1 => ?_)
  have hA1 : MA m1 m S := hA.fr hS (fun a j q1 q2 => hf1 a j (by omega))
  refine V_istore dL_law_1427 (Nat.le_of_ble_eq_true rfl) ?_
  refine V_aload_n dL_law_1429 rfl rfl ?_
  refine V_aload_n dL_law_1430 rfl rfl ?_
  refine V_iload dL_law_1431 rfl ?_
  refine V_iconst (v := nI 1) dL_law_1433 (by decide) ?_
  refine V_iadd dL_law_1434 ?_
  refine V_sld (i + 1) (nI_add i 1) (by omega) hL dL_law_1435 ?_
  refine V_cmR (ctX6_merges hM hA1 hS) mvX6_merges lkL_205 hM.1 rfl rfl rfl (Nat.le_of_ble_eq_true rfl) ⟨⟨Nat.le_of_ble_eq_true rfl, Nat.le_of_ble_eq_true rfl⟩, by show cells + 1 + 0 ≤ 601024; omega, by show slots + 6 + 0 ≤ 7293034; omega⟩ dL_law_1436 (fun m2 hA2 h20 hf2 => ?_)
  have hX2 := hX1.fr (fun a j q1 q2 => hf2 a j (by omega))
  refine V_istore dL_law_1439 (Nat.le_of_ble_eq_true rfl) ?_
  refine V_aload_n dL_law_1441 rfl rfl ?_
  refine V_cv1 (ctX6_thrown hM h20) mvX6_thrown lkL_138 hM.1 rfl rfl rfl (Nat.le_of_ble_eq_true rfl) ⟨⟨Nat.le_of_ble_eq_true rfl, Nat.le_of_ble_eq_true rfl⟩, by show cells + 1 + 0 ≤ 601024; omega, by show slots + 6 + 0 ≤ 7293034; omega⟩ dL_law_1442 ?_
  refine V_iload dL_law_1445 rfl ?_
  refine V_icmp_eq 1452 dL_law_1447 (by decide) (fun _ => ?_) (fun hne => absurd rfl hne)
  refine V_iload dL_law_1452 rfl ?_
  refine V_if_ne 1469 dL_law_1454 (by decide) (fun _ => ?_) (fun hz0 => ?_)
  · refine V_goto 2556 dL_law_1469 (by decide) ?_
    refine V.less9 ?_
    refine V.widen (k := cells + 32) (n := slots + 440) (by omega) (by omega) ?_
    exact kn _ m2 l1 (sk_merges hS) hX2 hA2
  · have h0 := nI_k0 hz0 (Nat.le_trans rk_merges (by decide))
    refine V_aload_n dL_law_1457 rfl rfl ?_
    refine V_iconst (v := nI 0) dL_law_1458 (by decide) ?_
    refine V_laldN ho 0 rfl (by decide) (by decide) dL_law_1459 ?_
    refine V_iload dL_law_1460 rfl ?_
    refine V_i2l dL_law_1462 ?_
    refine V_lcmp dL_law_1463 ?_
    refine V_if_eq 1469 dL_law_1464 (by decide) (fun _ => ?_) (fun hne => absurd ((lg_cmp_eq _ _).mpr (ho1 h0)) hne)
    refine V_goto 2556 dL_law_1469 (by decide) ?_
    refine V.less9 ?_
    refine V.widen (k := cells + 32) (n := slots + 440) (by omega) (by omega) ?_
    exact kn _ m2 l1 (sk_merges hS) hX2 hA2
end Case
