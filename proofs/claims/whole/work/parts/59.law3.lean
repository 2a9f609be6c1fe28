section LW3
variable {p : Program} {l : Launch} {e : Env} {s : State} {m : MethodId} {args : Array Value} {below : List Frame} {meth : Method} {c : Code} {H : Heap} {locs : List Loc} {cells slots : Nat} {Q : State → Prop}
variable {D : va_G} {cy : Nat → ClassId} {b N : Nat} {xs : Nat → Int32} {ls : Array Slot} {x mo o i : Nat}
set_option maxRecDepth 100000 in
set_option maxHeartbeats 4000000 in
theorem lw_entry (hst : l.stackTraces = false) (C : LX p s m meth c D cy b N xs) (hi : i + 3 < N) (hN : N ≤ 2048) (hc : cells + 20 ≤ 601024) (hs : slots + 2200 ≤ 7293034) (hI : LI D cy s H locs x mo o) (hl : lv_has ls 7 (lv5 b x mo o i))
    (kk : ∀ (H : Heap) (locs : List Loc) (ls : Array Slot), LI D cy s H locs x mo o → lv_has ls 7 (lv5 b x mo o i) → W p l e room_1 s m args below meth c H locs (cells + 20) (slots + 2200) Q (F0 m 1306 ls [])) : W p l e room_1 s m args below meth c H locs cells slots Q (F0 m 894 ls []) := by
  obtain ⟨tg, L, K, P, J, I, S, hF, hWT, ⟨hH, hM, hok, hTL⟩, kx, km, ko⟩ := hI
  have C0 := C.1
  refine lv_aload_n C0.1 C0.2.1 dL_law_894 rfl (lv_at hl 1 rfl) ?_
  refine lw_arg (jn := 1) (pc := 895) C hF.2.2.1 (lv_at hl 0 rfl) (lv_at hl 4 rfl) (by omega) hN dL_law_895 dL_law_896 dL_law_898 dL_law_899 dL_law_900 ?_
  refine lw_arg (jn := 2) (pc := 901) C hF.2.2.1 (lv_at hl 0 rfl) (lv_at hl 4 rfl) (by omega) hN dL_law_901 dL_law_902 dL_law_904 dL_law_905 dL_law_906 ?_
  refine lv_aload_n C0.1 C0.2.1 dL_law_907 rfl (lv_at hl 3 rfl) ?_
  obtain ⟨r, I1, e1, e2, e3, e4⟩ := h_entry (K := K) (e := (sv xs (i + 1))) (w := (sv xs (i + 2))) hH hok
  refine fl_riJ hF (fl_runSW (As := [.ref x, iv (sv xs (i + 1)), iv (sv xs (i + 2)), .ref o]) (rest := []) C0 hF C.2.1 hl.1 (d_entry l hst D cy s.heap.size L K P J I hWT x (sv xs (i + 1)) (sv xs (i + 2)) o kx rg_sv rg_sv ko e1 entryS_co) aw_795 aw_796 aw_64 aw_797 rfl pm_L_entry rfl rfl ⟨Nat.le_of_ble_eq_true rfl, Nat.le_of_ble_eq_true rfl⟩ rfl (Nat.le_of_ble_eq_true rfl) dL_law_908 ⟨show cells + 2 ≤ 601024 by omega, show slots + 12 ≤ 7293034 by omega⟩) (fun H locs hF1 rh => ?_)
  refine lv_istore (lv' := (5, iv (hnm [3, 1] (entryS S (sv xs (i + 1)) (sv xs (i + 2))).1)) :: lv5 b x mo o i) C0.1 C0.2.1 dL_law_911 hl (by decide) rfl (fun ls hl => ?_)
  have hl : lv_has ls 7 (lv6 b x mo o i (hnm [3, 1] (entryS S (sv xs (i + 1)) (sv xs (i + 2))).1)) := lv_sub hl [1, 2, 3, 4, 5, 0] rfl
  refine lv_aload_n C0.1 C0.2.1 dL_law_913 rfl (lv_at hl 2 rfl) ?_
  refine lw_arg (jn := 1) (pc := 914) C hF1.2.2.1 (lv_at hl 0 rfl) (lv_at hl 4 rfl) (by omega) hN dL_law_914 dL_law_915 dL_law_917 dL_law_918 dL_law_919 ?_
  refine lw_arg (jn := 2) (pc := 920) C hF1.2.2.1 (lv_at hl 0 rfl) (lv_at hl 4 rfl) (by omega) hN dL_law_920 dL_law_921 dL_law_923 dL_law_924 dL_law_925 ?_
  have hM1 := hM.h hok e4
  obtain ⟨r2, I2, g1, g2, g3, g4, g5⟩ := x_entry (K := K) (e := (sv xs (i + 1))) (w := (sv xs (i + 2))) hM1 hok
  refine fl_ri hF1 (fl_runV (As := [iv (sv xs (i + 1)), iv (sv xs (i + 2))]) (rest := []) C0 hF1 hl.1 ck_9 km rfl (c_X8_entry l D cy s.heap.size L K P (if (entryS S (sv xs (i + 1)) (sv xs (i + 2))).1 = 0 then up J o 0 r else J) hWT I1 mo (sv xs (i + 1)) (sv xs (i + 2)) km rg_sv rg_sv g1) aw_1111 aw_1112 aw_1113 aw_73 aw_1114 rfl rfl pm_X8_entry rfl rfl ⟨Nat.le_of_ble_eq_true rfl, Nat.le_of_ble_eq_true rfl⟩ rfl (Nat.le_of_ble_eq_true rfl) dL_law_926 ⟨show cells + 2 + 0 ≤ 601024 by omega, show slots + 12 + 0 ≤ 7293034 by omega⟩) (fun H locs hF2 rr2 => ?_)
  have hJ : hnm [3, 1] (entryS S (sv xs (i + 1)) (sv xs (i + 2))).1 = 0 → (if (entryS S (sv xs (i + 1)) (sv xs (i + 2))).1 = 0 then up J o 0 r else J) o 0 = r2 := fun h0 => by
    have hc0 := hnm0 h0
    rw [if_pos hc0, up_s, e2 hc0, g2 hc0]
  exact lw_tail (t := 929) C hF2 hWT km ko g3 rh rr2 hJ hl dL_law_929 dL_law_931 dL_law_932 dL_law_935 dL_law_937 dL_law_942 dL_law_944 dL_law_947 dL_law_948 dL_law_949 dL_law_950 dL_law_952 dL_law_953 dL_law_954 dL_law_959 (by decide) (show cells + 2 + 0 ≤ 601024 by omega) (show slots + 12 + 0 ≤ 7293034 by omega) (fun H locs ls hF3 hl => W.widen (by omega) (by omega) (kk H locs ls ⟨tg, L, K, P, _, I2, (entryS S (sv xs (i + 1)) (sv xs (i + 2))).2.2, hF3, hWT, ⟨e3.fr (g5.mono (fun u => scr11)), g4, (entryS_ok hok), hTL⟩, kx, km, ko⟩ hl))
set_option maxRecDepth 100000 in
set_option maxHeartbeats 4000000 in
theorem lw_likeness (hst : l.stackTraces = false) (C : LX p s m meth c D cy b N xs) (hi : i + 3 < N) (hN : N ≤ 2048) (hc : cells + 20 ≤ 601024) (hs : slots + 2200 ≤ 7293034) (hI : LI D cy s H locs x mo o) (hl : lv_has ls 7 (lv5 b x mo o i))
    (kk : ∀ (H : Heap) (locs : List Loc) (ls : Array Slot), LI D cy s H locs x mo o → lv_has ls 7 (lv5 b x mo o i) → W p l e room_1 s m args below meth c H locs (cells + 20) (slots + 2200) Q (F0 m 1306 ls [])) : W p l e room_1 s m args below meth c H locs cells slots Q (F0 m 962 ls []) := by
  obtain ⟨tg, L, K, P, J, I, S, hF, hWT, ⟨hH, hM, hok, hTL⟩, kx, km, ko⟩ := hI
  have C0 := C.1
  refine lv_aload_n C0.1 C0.2.1 dL_law_962 rfl (lv_at hl 1 rfl) ?_
  refine lw_arg (jn := 1) (pc := 963) C hF.2.2.1 (lv_at hl 0 rfl) (lv_at hl 4 rfl) (by omega) hN dL_law_963 dL_law_964 dL_law_966 dL_law_967 dL_law_968 ?_
  refine lw_arg (jn := 2) (pc := 969) C hF.2.2.1 (lv_at hl 0 rfl) (lv_at hl 4 rfl) (by omega) hN dL_law_969 dL_law_970 dL_law_972 dL_law_973 dL_law_974 ?_
  refine lv_aload_n C0.1 C0.2.1 dL_law_975 rfl (lv_at hl 3 rfl) ?_
  obtain ⟨r, I1, e1, e2, e3, e4⟩ := h_likeness (K := K) (e := (sv xs (i + 1))) (o := (sv xs (i + 2))) hH hok
  refine fl_riJ hF (fl_runSW (As := [.ref x, iv (sv xs (i + 1)), iv (sv xs (i + 2)), .ref o]) (rest := []) C0 hF C.2.1 hl.1 (d_likeness l hst D cy s.heap.size L K P J I hWT x (sv xs (i + 1)) (sv xs (i + 2)) o kx rg_sv rg_sv ko e1 likenessS_co) aw_806 aw_807 aw_64 aw_808 rfl pm_L_likeness rfl rfl ⟨Nat.le_of_ble_eq_true rfl, Nat.le_of_ble_eq_true rfl⟩ rfl (Nat.le_of_ble_eq_true rfl) dL_law_976 ⟨show cells + 2 ≤ 601024 by omega, show slots + 12 ≤ 7293034 by omega⟩) (fun H locs hF1 rh => ?_)
  refine lv_istore (lv' := (5, iv (hnm [3] (likenessS S (sv xs (i + 1)) (sv xs (i + 2))).1)) :: lv5 b x mo o i) C0.1 C0.2.1 dL_law_979 hl (by decide) rfl (fun ls hl => ?_)
  have hl : lv_has ls 7 (lv6 b x mo o i (hnm [3] (likenessS S (sv xs (i + 1)) (sv xs (i + 2))).1)) := lv_sub hl [1, 2, 3, 4, 5, 0] rfl
  refine lv_aload_n C0.1 C0.2.1 dL_law_981 rfl (lv_at hl 2 rfl) ?_
  refine lw_arg (jn := 1) (pc := 982) C hF1.2.2.1 (lv_at hl 0 rfl) (lv_at hl 4 rfl) (by omega) hN dL_law_982 dL_law_983 dL_law_985 dL_law_986 dL_law_987 ?_
  refine lw_arg (jn := 2) (pc := 988) C hF1.2.2.1 (lv_at hl 0 rfl) (lv_at hl 4 rfl) (by omega) hN dL_law_988 dL_law_989 dL_law_991 dL_law_992 dL_law_993 ?_
  have hM1 := hM.h hok e4
  obtain ⟨r2, I2, g1, g2, g3, g4, g5⟩ := x_likeness (K := K) (e := (sv xs (i + 1))) (o := (sv xs (i + 2))) hM1 hok
  refine fl_ri hF1 (fl_runV (As := [iv (sv xs (i + 1)), iv (sv xs (i + 2))]) (rest := []) C0 hF1 hl.1 ck_9 km rfl (c_X8_likeness l D cy s.heap.size L K P (if (likenessS S (sv xs (i + 1)) (sv xs (i + 2))).1 = 0 then up J o 0 r else J) hWT I1 mo (sv xs (i + 1)) (sv xs (i + 2)) km rg_sv rg_sv g1) aw_1119 aw_1120 aw_1121 aw_73 aw_1122 rfl rfl pm_X8_likeness rfl rfl ⟨Nat.le_of_ble_eq_true rfl, Nat.le_of_ble_eq_true rfl⟩ rfl (Nat.le_of_ble_eq_true rfl) dL_law_994 ⟨show cells + 2 + 0 ≤ 601024 by omega, show slots + 12 + 0 ≤ 7293034 by omega⟩) (fun H locs hF2 rr2 => ?_)
  have hJ : hnm [3] (likenessS S (sv xs (i + 1)) (sv xs (i + 2))).1 = 0 → (if (likenessS S (sv xs (i + 1)) (sv xs (i + 2))).1 = 0 then up J o 0 r else J) o 0 = r2 := fun h0 => by
    have hc0 := hnm0 h0
    rw [if_pos hc0, up_s, e2 hc0, g2 hc0]
  exact lw_tail (t := 997) C hF2 hWT km ko g3 rh rr2 hJ hl dL_law_997 dL_law_999 dL_law_1000 dL_law_1003 dL_law_1005 dL_law_1010 dL_law_1012 dL_law_1015 dL_law_1016 dL_law_1017 dL_law_1018 dL_law_1020 dL_law_1021 dL_law_1022 dL_law_1027 (by decide) (show cells + 2 + 0 ≤ 601024 by omega) (show slots + 12 + 0 ≤ 7293034 by omega) (fun H locs ls hF3 hl => W.widen (by omega) (by omega) (kk H locs ls ⟨tg, L, K, P, _, I2, (likenessS S (sv xs (i + 1)) (sv xs (i + 2))).2.2, hF3, hWT, ⟨e3.fr (g5.mono (fun u => scr11)), g4, (likenessS_ok hok), hTL⟩, kx, km, ko⟩ hl))
set_option maxRecDepth 100000 in
set_option maxHeartbeats 4000000 in
theorem lw_freeze (hst : l.stackTraces = false) (C : LX p s m meth c D cy b N xs) (hi : i + 3 < N) (hN : N ≤ 2048) (hc : cells + 20 ≤ 601024) (hs : slots + 2200 ≤ 7293034) (hI : LI D cy s H locs x mo o) (hl : lv_has ls 7 (lv5 b x mo o i))
    (kk : ∀ (H : Heap) (locs : List Loc) (ls : Array Slot), LI D cy s H locs x mo o → lv_has ls 7 (lv5 b x mo o i) → W p l e room_1 s m args below meth c H locs (cells + 20) (slots + 2200) Q (F0 m 1306 ls [])) : W p l e room_1 s m args below meth c H locs cells slots Q (F0 m 1030 ls []) := by
  obtain ⟨tg, L, K, P, J, I, S, hF, hWT, ⟨hH, hM, hok, hTL⟩, kx, km, ko⟩ := hI
  have C0 := C.1
  refine lv_aload_n C0.1 C0.2.1 dL_law_1030 rfl (lv_at hl 1 rfl) ?_
  refine lw_arg (jn := 1) (pc := 1031) C hF.2.2.1 (lv_at hl 0 rfl) (lv_at hl 4 rfl) (by omega) hN dL_law_1031 dL_law_1032 dL_law_1034 dL_law_1035 dL_law_1036 ?_
  obtain ⟨I1, e1, e3, e4⟩ := h_freeze (K := K) (v := (sv xs (i + 1))) hH
  refine fl_ri hF (fl_runSW (As := [.ref x, iv (sv xs (i + 1))]) (rest := []) C0 hF C.2.1 hl.1 (d_freeze l hst D cy s.heap.size L K P J I hWT x (sv xs (i + 1)) kx rg_sv e1 freezeS_co) aw_824 aw_825 aw_64 aw_826 rfl pm_L_freeze rfl rfl ⟨Nat.le_of_ble_eq_true rfl, Nat.le_of_ble_eq_true rfl⟩ rfl (Nat.le_of_ble_eq_true rfl) dL_law_1037 ⟨show cells + 1 ≤ 601024 by omega, show slots + 6 ≤ 7293034 by omega⟩) (fun H locs hF1 rh => ?_)
  refine lv_istore (lv' := (5, iv (hnm [1] (freezeS S (sv xs (i + 1))).1)) :: lv5 b x mo o i) C0.1 C0.2.1 dL_law_1040 hl (by decide) rfl (fun ls hl => ?_)
  have hl : lv_has ls 7 (lv6 b x mo o i (hnm [1] (freezeS S (sv xs (i + 1))).1)) := lv_sub hl [1, 2, 3, 4, 5, 0] rfl
  refine lv_aload_n C0.1 C0.2.1 dL_law_1042 rfl (lv_at hl 2 rfl) ?_
  refine lw_arg (jn := 1) (pc := 1043) C hF1.2.2.1 (lv_at hl 0 rfl) (lv_at hl 4 rfl) (by omega) hN dL_law_1043 dL_law_1044 dL_law_1046 dL_law_1047 dL_law_1048 ?_
  have hM1 := hM.h hok e4
  obtain ⟨I2, g1, g3, g4, g5⟩ := x_freeze (K := K) (v := (sv xs (i + 1))) hM1 hok
  refine fl_rv hF1 (fl_runV (As := [iv (sv xs (i + 1))]) (rest := []) C0 hF1 hl.1 ck_9 km rfl (c_X8_freeze l D cy s.heap.size L K P J hWT I1 mo (sv xs (i + 1)) km rg_sv g1) aw_1127 aw_1128 aw_1129 aw_73 aw_1130 rfl rfl pm_X8_freeze rfl rfl ⟨Nat.le_of_ble_eq_true rfl, Nat.le_of_ble_eq_true rfl⟩ rfl (Nat.le_of_ble_eq_true rfl) dL_law_1049 ⟨show cells + 1 + 0 ≤ 601024 by omega, show slots + 6 + 0 ≤ 7293034 by omega⟩) (fun H locs hF2 => ?_)
  refine lv_aload_n C0.1 C0.2.1 dL_law_1052 rfl (lv_at hl 2 rfl) ?_
  have hf : f_X8_thrown K P I2 mo = some (I2 mo 38) := rfl
  refine fl_ri hF2 (fl_runV (As := []) (rest := []) C0 hF2 hl.1 ck_9 km rfl (c_X8_thrown l D cy s.heap.size L K P J hWT I2 mo km hf) aw_992 aw_993 aw_994 aw_73 aw_995 rfl rfl pm_X8_thrown rfl rfl ⟨Nat.le_of_ble_eq_true rfl, Nat.le_of_ble_eq_true rfl⟩ rfl (Nat.le_of_ble_eq_true rfl) dL_law_1053 ⟨show cells + 1 + 0 + 0 ≤ 601024 by omega, show slots + 6 + 0 + 0 ≤ 7293034 by omega⟩) (fun H locs hF3 rr2 => ?_)
  refine lv_iload C0.1 C0.2.1 dL_law_1056 (lv_at hl 5 rfl) ?_
  rw [g3]
  refine fl_icmp_eq (tgt := 1063) C0 rh rh dL_law_1058 (by decide) (fun _ => ?_) (fun q => absurd rfl q)
  refine fl_goto (tgt := 1306) C0 dL_law_1063 (by decide) ?_
  exact W.widen (by omega) (by omega) (kk H locs ls ⟨tg, L, K, P, _, I2, (freezeS S (sv xs (i + 1))).2.2, hF3, hWT, ⟨e3.fr (g5.mono (fun u => scr11)), g4, (freezeS_ok hok), hTL⟩, kx, km, ko⟩ (lv_sub hl [0, 1, 2, 3, 4] rfl))
set_option maxRecDepth 100000 in
set_option maxHeartbeats 4000000 in
theorem lw_reveal (hst : l.stackTraces = false) (C : LX p s m meth c D cy b N xs) (hi : i + 3 < N) (hN : N ≤ 2048) (hc : cells + 20 ≤ 601024) (hs : slots + 2200 ≤ 7293034) (hI : LI D cy s H locs x mo o) (hl : lv_has ls 7 (lv5 b x mo o i))
    (kk : ∀ (H : Heap) (locs : List Loc) (ls : Array Slot), LI D cy s H locs x mo o → lv_has ls 7 (lv5 b x mo o i) → W p l e room_1 s m args below meth c H locs (cells + 20) (slots + 2200) Q (F0 m 1306 ls [])) : W p l e room_1 s m args below meth c H locs cells slots Q (F0 m 1066 ls []) := by
  obtain ⟨tg, L, K, P, J, I, S, hF, hWT, ⟨hH, hM, hok, hTL⟩, kx, km, ko⟩ := hI
  have C0 := C.1
  obtain ⟨I1, e1, e3, e4⟩ := h_reveal (K := K) hH hok
  have hM1 := hM.h hok e4
  obtain ⟨I2, g1, g3, g4, g5⟩ := x_reveal (K := K) hM1 hok
  refine lv_aload_n C0.1 C0.2.1 dL_law_1066 rfl (lv_at hl 1 rfl) ?_
  refine fl_ri hF (fl_runV (As := []) (rest := []) C0 hF hl.1 ck_8 kx rfl (c_X7_reveal l D cy s.heap.size L K P J hWT I x kx e1) aw_356 aw_357 aw_358 aw_65 aw_359 rfl rfl pm_X7_reveal rfl rfl ⟨Nat.le_of_ble_eq_true rfl, Nat.le_of_ble_eq_true rfl⟩ rfl (Nat.le_of_ble_eq_true rfl) dL_law_1067 ⟨show cells + 0 ≤ 601024 by omega, show slots + 0 ≤ 7293034 by omega⟩) (fun H locs hF1 rr1 => ?_)
  refine lv_aload_n C0.1 C0.2.1 dL_law_1070 rfl (lv_at hl 2 rfl) ?_
  refine fl_ri hF1 (fl_runV (As := []) (rest := [iv (revealS S).2.1]) C0 hF1 hl.1 ck_9 km rfl (c_X8_reveal l D cy s.heap.size L K P J hWT I1 mo km g1) aw_1131 aw_1132 aw_1133 aw_73 aw_1134 rfl rfl pm_X8_reveal rfl rfl ⟨Nat.le_of_ble_eq_true rfl, Nat.le_of_ble_eq_true rfl⟩ rfl (Nat.le_of_ble_eq_true rfl) dL_law_1071 ⟨show cells + 0 + 0 ≤ 601024 by omega, show slots + 0 + 0 ≤ 7293034 by omega⟩) (fun H locs hF3 rr2 => ?_)
  refine fl_icmp_eq (tgt := 1306) C0 rr1 rr2 dL_law_1074 (by decide) (fun _ => ?_) (fun q => absurd rfl q)
  exact W.widen (by omega) (by omega) (kk H locs ls ⟨tg, L, K, P, J, I2, (revealS S).2.2, hF3, hWT, ⟨e3.fr (g5.mono (fun u => scr11)), g4, revealS_ok hok, hTL⟩, kx, km, ko⟩ hl)
set_option maxRecDepth 100000 in
set_option maxHeartbeats 4000000 in
theorem lw_board (hst : l.stackTraces = false) (C : LX p s m meth c D cy b N xs) (hi : i + 3 < N) (hN : N ≤ 2048) (hc : cells + 20 ≤ 601024) (hs : slots + 2200 ≤ 7293034) (hI : LI D cy s H locs x mo o) (hl : lv_has ls 7 (lv5 b x mo o i))
    (kk : ∀ (H : Heap) (locs : List Loc) (ls : Array Slot), LI D cy s H locs x mo o → lv_has ls 7 (lv5 b x mo o i) → W p l e room_1 s m args below meth c H locs (cells + 20) (slots + 2200) Q (F0 m 1306 ls [])) : W p l e room_1 s m args below meth c H locs cells slots Q (F0 m 1079 ls []) := by
  obtain ⟨tg, L, K, P, J, I, S, hF, hWT, ⟨hH, hM, hok, hTL⟩, kx, km, ko⟩ := hI
  have C0 := C.1
  refine lv_aload_n C0.1 C0.2.1 dL_law_1079 rfl (lv_at hl 1 rfl) ?_
  refine lw_arg (jn := 1) (pc := 1080) C hF.2.2.1 (lv_at hl 0 rfl) (lv_at hl 4 rfl) (by omega) hN dL_law_1080 dL_law_1081 dL_law_1083 dL_law_1084 dL_law_1085 ?_
  refine lw_arg (jn := 2) (pc := 1086) C hF.2.2.1 (lv_at hl 0 rfl) (lv_at hl 4 rfl) (by omega) hN dL_law_1086 dL_law_1087 dL_law_1089 dL_law_1090 dL_law_1091 ?_
  refine lw_bool (pc := 1092) C.1 rg_sv dL_law_1092 dL_law_1095 dL_law_1096 dL_law_1099 (by decide) (by decide) ?_
  refine lw_arg (jn := 3) (pc := 1100) C hF.2.2.1 (lv_at hl 0 rfl) (lv_at hl 4 rfl) (by omega) hN dL_law_1100 dL_law_1101 dL_law_1103 dL_law_1104 dL_law_1105 ?_
  refine lv_aload_n C0.1 C0.2.1 dL_law_1106 rfl (lv_at hl 3 rfl) ?_
  obtain ⟨r, I1, e1, e2, e3, e4⟩ := h_board (K := K) (t := (sv xs (i + 1))) (fz := (bz (sv xs (i + 2)))) (w := (sv xs (i + 3))) hH hok
  refine fl_riJ hF (fl_runSW (As := [.ref x, iv (sv xs (i + 1)), iv (bz (sv xs (i + 2))), iv (sv xs (i + 3)), .ref o]) (rest := []) C0 hF C.2.1 hl.1 (d_board l hst D cy s.heap.size L K P J I hWT x (sv xs (i + 1)) (bz (sv xs (i + 2))) (sv xs (i + 3)) o kx rg_sv rg_bz rg_sv ko e1 boardS_co) aw_831 aw_832 aw_64 aw_833 rfl pm_L_board rfl rfl ⟨Nat.le_of_ble_eq_true rfl, Nat.le_of_ble_eq_true rfl⟩ rfl (Nat.le_of_ble_eq_true rfl) dL_law_1107 ⟨show cells + 2 ≤ 601024 by omega, show slots + 12 ≤ 7293034 by omega⟩) (fun H locs hF1 rh => ?_)
  refine lv_istore (lv' := (5, iv (hnm [3, 1] (boardS S (sv xs (i + 1)) (bz (sv xs (i + 2))) (sv xs (i + 3))).1)) :: lv5 b x mo o i) C0.1 C0.2.1 dL_law_1110 hl (by decide) rfl (fun ls hl => ?_)
  have hl : lv_has ls 7 (lv6 b x mo o i (hnm [3, 1] (boardS S (sv xs (i + 1)) (bz (sv xs (i + 2))) (sv xs (i + 3))).1)) := lv_sub hl [1, 2, 3, 4, 5, 0] rfl
  refine lv_aload_n C0.1 C0.2.1 dL_law_1112 rfl (lv_at hl 2 rfl) ?_
  refine lw_arg (jn := 1) (pc := 1113) C hF1.2.2.1 (lv_at hl 0 rfl) (lv_at hl 4 rfl) (by omega) hN dL_law_1113 dL_law_1114 dL_law_1116 dL_law_1117 dL_law_1118 ?_
  refine lw_arg (jn := 2) (pc := 1119) C hF1.2.2.1 (lv_at hl 0 rfl) (lv_at hl 4 rfl) (by omega) hN dL_law_1119 dL_law_1120 dL_law_1122 dL_law_1123 dL_law_1124 ?_
  refine lw_bool (pc := 1125) C.1 rg_sv dL_law_1125 dL_law_1128 dL_law_1129 dL_law_1132 (by decide) (by decide) ?_
  refine lw_arg (jn := 3) (pc := 1133) C hF1.2.2.1 (lv_at hl 0 rfl) (lv_at hl 4 rfl) (by omega) hN dL_law_1133 dL_law_1134 dL_law_1136 dL_law_1137 dL_law_1138 ?_
  have hM1 := hM.h hok e4
  obtain ⟨r2, I2, g1, g2, g3, g4, g5⟩ := x_board (K := K) (t := (sv xs (i + 1))) (fz := (bz (sv xs (i + 2)))) (w := (sv xs (i + 3))) hM1 hok
  refine fl_ri hF1 (fl_runV (As := [iv (sv xs (i + 1)), iv (bz (sv xs (i + 2))), iv (sv xs (i + 3))]) (rest := []) C0 hF1 hl.1 ck_9 km rfl (c_X8_board l D cy s.heap.size L K P (if (boardS S (sv xs (i + 1)) (bz (sv xs (i + 2))) (sv xs (i + 3))).1 = 0 then up J o 0 r else J) hWT I1 mo (sv xs (i + 1)) (bz (sv xs (i + 2))) (sv xs (i + 3)) km rg_sv rg_bz rg_sv g1) aw_1159 aw_1160 aw_1161 aw_73 aw_1162 rfl rfl pm_X8_board rfl rfl ⟨Nat.le_of_ble_eq_true rfl, Nat.le_of_ble_eq_true rfl⟩ rfl (Nat.le_of_ble_eq_true rfl) dL_law_1139 ⟨show cells + 2 + 0 ≤ 601024 by omega, show slots + 12 + 0 ≤ 7293034 by omega⟩) (fun H locs hF2 rr2 => ?_)
  have hJ : hnm [3, 1] (boardS S (sv xs (i + 1)) (bz (sv xs (i + 2))) (sv xs (i + 3))).1 = 0 → (if (boardS S (sv xs (i + 1)) (bz (sv xs (i + 2))) (sv xs (i + 3))).1 = 0 then up J o 0 r else J) o 0 = r2 := fun h0 => by
    have hc0 := hnm0 h0
    rw [if_pos hc0, up_s, e2 hc0, g2 hc0]
  exact lw_tail (t := 1142) C hF2 hWT km ko g3 rh rr2 hJ hl dL_law_1142 dL_law_1144 dL_law_1145 dL_law_1148 dL_law_1150 dL_law_1155 dL_law_1157 dL_law_1160 dL_law_1161 dL_law_1162 dL_law_1163 dL_law_1165 dL_law_1166 dL_law_1167 dL_law_1172 (by decide) (show cells + 2 + 0 ≤ 601024 by omega) (show slots + 12 + 0 ≤ 7293034 by omega) (fun H locs ls hF3 hl => W.widen (by omega) (by omega) (kk H locs ls ⟨tg, L, K, P, _, I2, (boardS S (sv xs (i + 1)) (bz (sv xs (i + 2))) (sv xs (i + 3))).2.2, hF3, hWT, ⟨e3.fr (g5.mono (fun u => scr11)), g4, (boardS_ok hok), hTL⟩, kx, km, ko⟩ hl))
set_option maxRecDepth 100000 in
set_option maxHeartbeats 4000000 in
theorem lw_placeAnew (hst : l.stackTraces = false) (C : LX p s m meth c D cy b N xs) (hi : i + 3 < N) (hN : N ≤ 2048) (hc : cells + 20 ≤ 601024) (hs : slots + 2200 ≤ 7293034) (hI : LI D cy s H locs x mo o) (hl : lv_has ls 7 (lv5 b x mo o i))
    (kk : ∀ (H : Heap) (locs : List Loc) (ls : Array Slot), LI D cy s H locs x mo o → lv_has ls 7 (lv5 b x mo o i) → W p l e room_1 s m args below meth c H locs (cells + 20) (slots + 2200) Q (F0 m 1306 ls [])) : W p l e room_1 s m args below meth c H locs cells slots Q (F0 m 1175 ls []) := by
  obtain ⟨tg, L, K, P, J, I, S, hF, hWT, ⟨hH, hM, hok, hTL⟩, kx, km, ko⟩ := hI
  have C0 := C.1
  refine lv_aload_n C0.1 C0.2.1 dL_law_1175 rfl (lv_at hl 1 rfl) ?_
  refine lw_arg (jn := 1) (pc := 1176) C hF.2.2.1 (lv_at hl 0 rfl) (lv_at hl 4 rfl) (by omega) hN dL_law_1176 dL_law_1177 dL_law_1179 dL_law_1180 dL_law_1181 ?_
  refine lv_aload_n C0.1 C0.2.1 dL_law_1182 rfl (lv_at hl 3 rfl) ?_
  obtain ⟨r, I1, e1, e2, e3, e4⟩ := h_placeAnew (K := K) (t := (sv xs (i + 1))) hH hok
  refine fl_riJ hF (fl_runSW (As := [.ref x, iv (sv xs (i + 1)), .ref o]) (rest := []) C0 hF C.2.1 hl.1 (d_placeAnew l hst D cy s.heap.size L K P J I hWT x (sv xs (i + 1)) o kx rg_sv ko e1 placeAnewS_co) aw_843 aw_844 aw_64 aw_845 rfl pm_L_placeAnew rfl rfl ⟨Nat.le_of_ble_eq_true rfl, Nat.le_of_ble_eq_true rfl⟩ rfl (Nat.le_of_ble_eq_true rfl) dL_law_1183 ⟨show cells + 1 ≤ 601024 by omega, show slots + 6 ≤ 7293034 by omega⟩) (fun H locs hF1 rh => ?_)
  refine lv_istore (lv' := (5, iv (hnm [3] (placeAnewS S (sv xs (i + 1))).1)) :: lv5 b x mo o i) C0.1 C0.2.1 dL_law_1186 hl (by decide) rfl (fun ls hl => ?_)
  have hl : lv_has ls 7 (lv6 b x mo o i (hnm [3] (placeAnewS S (sv xs (i + 1))).1)) := lv_sub hl [1, 2, 3, 4, 5, 0] rfl
  refine lv_aload_n C0.1 C0.2.1 dL_law_1188 rfl (lv_at hl 2 rfl) ?_
  refine lw_arg (jn := 1) (pc := 1189) C hF1.2.2.1 (lv_at hl 0 rfl) (lv_at hl 4 rfl) (by omega) hN dL_law_1189 dL_law_1190 dL_law_1192 dL_law_1193 dL_law_1194 ?_
  have hM1 := hM.h hok e4
  obtain ⟨r2, I2, g1, g2, g3, g4, g5⟩ := x_placeAnew (K := K) (t := (sv xs (i + 1))) hM1 hok
  refine fl_ri hF1 (fl_runV (As := [iv (sv xs (i + 1))]) (rest := []) C0 hF1 hl.1 ck_9 km rfl (c_X8_placeAnew l D cy s.heap.size L K P (if (placeAnewS S (sv xs (i + 1))).1 = 0 then up J o 0 r else J) hWT I1 mo (sv xs (i + 1)) km rg_sv g1) aw_1167 aw_1168 aw_1169 aw_73 aw_1170 rfl rfl pm_X8_placeAnew rfl rfl ⟨Nat.le_of_ble_eq_true rfl, Nat.le_of_ble_eq_true rfl⟩ rfl (Nat.le_of_ble_eq_true rfl) dL_law_1195 ⟨show cells + 1 + 0 ≤ 601024 by omega, show slots + 6 + 0 ≤ 7293034 by omega⟩) (fun H locs hF2 rr2 => ?_)
  have hJ : hnm [3] (placeAnewS S (sv xs (i + 1))).1 = 0 → (if (placeAnewS S (sv xs (i + 1))).1 = 0 then up J o 0 r else J) o 0 = r2 := fun h0 => by
    have hc0 := hnm0 h0
    rw [if_pos hc0, up_s, e2 hc0, g2 hc0]
  exact lw_tail (t := 1198) C hF2 hWT km ko g3 rh rr2 hJ hl dL_law_1198 dL_law_1200 dL_law_1201 dL_law_1204 dL_law_1206 dL_law_1211 dL_law_1213 dL_law_1216 dL_law_1217 dL_law_1218 dL_law_1219 dL_law_1221 dL_law_1222 dL_law_1223 dL_law_1228 (by decide) (show cells + 1 + 0 ≤ 601024 by omega) (show slots + 6 + 0 ≤ 7293034 by omega) (fun H locs ls hF3 hl => W.widen (by omega) (by omega) (kk H locs ls ⟨tg, L, K, P, _, I2, (placeAnewS S (sv xs (i + 1))).2.2, hF3, hWT, ⟨e3.fr (g5.mono (fun u => scr11)), g4, (placeAnewS_ok hok), hTL⟩, kx, km, ko⟩ hl))
set_option maxRecDepth 100000 in
set_option maxHeartbeats 4000000 in
theorem lw_problem (hst : l.stackTraces = false) (C : LX p s m meth c D cy b N xs) (hi : i + 3 < N) (hN : N ≤ 2048) (hc : cells + 20 ≤ 601024) (hs : slots + 2200 ≤ 7293034) (hI : LI D cy s H locs x mo o) (hl : lv_has ls 7 (lv5 b x mo o i))
    (kk : ∀ (H : Heap) (locs : List Loc) (ls : Array Slot), LI D cy s H locs x mo o → lv_has ls 7 (lv5 b x mo o i) → W p l e room_1 s m args below meth c H locs (cells + 20) (slots + 2200) Q (F0 m 1306 ls [])) : W p l e room_1 s m args below meth c H locs cells slots Q (F0 m 337 ls []) := by
  obtain ⟨tg, L, K, P, J, I, S, hF, hWT, ⟨hH, hM, hok, hTL⟩, kx, km, ko⟩ := hI
  have C0 := C.1
  refine lv_aload_n C0.1 C0.2.1 dL_law_337 rfl (lv_at hl 1 rfl) ?_
  refine lw_arg (jn := 1) (pc := 338) C hF.2.2.1 (lv_at hl 0 rfl) (lv_at hl 4 rfl) (by omega) hN dL_law_338 dL_law_339 dL_law_341 dL_law_342 dL_law_343 ?_
  refine lw_arg (jn := 2) (pc := 344) C hF.2.2.1 (lv_at hl 0 rfl) (lv_at hl 4 rfl) (by omega) hN dL_law_344 dL_law_345 dL_law_347 dL_law_348 dL_law_349 ?_
  refine lv_aload_n C0.1 C0.2.1 dL_law_350 rfl (lv_at hl 3 rfl) ?_
  refine fl_alm hF (fl_runSW (As := [.ref x, iv (sv xs (i + 1)), iv (sv xs (i + 2)), .ref o]) (rest := []) C0 hF C.2.1 hl.1 (d_problem l hst D cy s.heap.size L K P J I hWT x (sv xs (i + 1)) (sv xs (i + 2)) o kx rg_sv rg_sv ko (KOut tg P I x (problemS S (sv xs (i + 1)) (sv xs (i + 2)))) (h_problem hH hok hTL hF.kl) (fun co r L1 K1 P1 I1 h => by rw [h.1.1]; exact problemS_co)) aw_518 aw_519 aw_64 aw_520 rfl pm_L_problem rfl rfl ⟨Nat.le_of_ble_eq_true rfl, Nat.le_of_ble_eq_true rfl⟩ rfl (Nat.le_of_ble_eq_true rfl) dL_law_351 ⟨show cells + 9 ≤ 601024 by omega, show slots + 2061 ≤ 7293034 by omega⟩) (fun co r L1 K1 P1 I1 H locs hF1 rh rr hpost hWT1 hEK => ?_)
  obtain ⟨⟨hco, hrq⟩, tg1, hH1, hTL1, hKL1, hMM⟩ := hpost
  have hM1 := hMM mo S hM hok
  have kx1 : K1 x = 8 := (hEK x (by rw [kx]; decide)).trans kx
  have km1 : K1 mo = 9 := (hEK mo (by rw [km]; decide)).trans km
  have ko1 : K1 o = 107 := (hEK o (by rw [ko]; decide)).trans ko
  have hok1 : (problemS S (sv xs (i + 1)) (sv xs (i + 2))).2.2.ok := problemS_ok hok
  refine lv_istore (lv' := (5, iv (hnm [1, 2] co)) :: lv5 b x mo o i) C0.1 C0.2.1 dL_law_354 hl (by decide) rfl (fun ls hl => ?_)
  have hl : lv_has ls 7 (lv6 b x mo o i (hnm [1, 2] co)) := lv_sub hl [1, 2, 3, 4, 5, 0] rfl
  refine lv_aload_n C0.1 C0.2.1 dL_law_356 rfl (lv_at hl 2 rfl) ?_
  refine lw_arg (jn := 1) (pc := 357) C hF1.2.2.1 (lv_at hl 0 rfl) (lv_at hl 4 rfl) (by omega) hN dL_law_357 dL_law_358 dL_law_360 dL_law_361 dL_law_362 ?_
  refine lw_arg (jn := 2) (pc := 363) C hF1.2.2.1 (lv_at hl 0 rfl) (lv_at hl 4 rfl) (by omega) hN dL_law_363 dL_law_364 dL_law_366 dL_law_367 dL_law_368 ?_
  obtain ⟨r2, I2, g1, g2, g3, g4, g5⟩ := x_problem (K := K1) (lim := (sv xs (i + 1))) (chk := (sv xs (i + 2))) hM1 hok
  refine fl_ri hF1 (fl_runV (As := [iv (sv xs (i + 1)), iv (sv xs (i + 2))]) (rest := []) C0 hF1 hl.1 ck_9 km1 rfl (c_X8_problem l D cy s.heap.size L1 K1 P1 (if co = 0 then up J o 0 r else J) hWT1 I1 mo (sv xs (i + 1)) (sv xs (i + 2)) km1 rg_sv rg_sv g1) aw_1038 aw_1039 aw_1040 aw_73 aw_1041 rfl rfl pm_X8_problem rfl rfl ⟨Nat.le_of_ble_eq_true rfl, Nat.le_of_ble_eq_true rfl⟩ rfl (Nat.le_of_ble_eq_true rfl) dL_law_369 ⟨show cells + 9 + 0 ≤ 601024 by omega, show slots + 2061 + 0 ≤ 7293034 by omega⟩) (fun H locs hF2 rr2 => ?_)
  have hJ : hnm [1, 2] co = 0 → (if co = 0 then up J o 0 r else J) o 0 = r2 := fun h0 => by
    have hc0 := hnm0 h0
    rw [if_pos hc0, up_s, hrq hc0, g2 (hco ▸ hc0)]
  exact lw_tail (t := 372) C hF2 hWT1 km1 ko1 (by rw [g3, hco]) rh rr2 hJ hl dL_law_372 dL_law_374 dL_law_375 dL_law_378 dL_law_380 dL_law_385 dL_law_387 dL_law_390 dL_law_391 dL_law_392 dL_law_393 dL_law_395 dL_law_396 dL_law_397 dL_law_402 (by decide) (show cells + 9 + 0 ≤ 601024 by omega) (show slots + 2061 + 0 ≤ 7293034 by omega) (fun H locs ls hF3 hl => W.widen (by omega) (by omega) (kk H locs ls ⟨tg1, L1, K1, P1, _, I2, (problemS S (sv xs (i + 1)) (sv xs (i + 2))).2.2, hF3, hWT1, ⟨hH1.fr (g5.mono (fun u => scr11)), g4, hok1, hTL1⟩, kx1, km1, ko1⟩ hl))
set_option maxRecDepth 100000 in
set_option maxHeartbeats 4000000 in
theorem lw_test (hst : l.stackTraces = false) (C : LX p s m meth c D cy b N xs) (hi : i + 3 < N) (hN : N ≤ 2048) (hc : cells + 20 ≤ 601024) (hs : slots + 2200 ≤ 7293034) (hI : LI D cy s H locs x mo o) (hl : lv_has ls 7 (lv5 b x mo o i))
    (kk : ∀ (H : Heap) (locs : List Loc) (ls : Array Slot), LI D cy s H locs x mo o → lv_has ls 7 (lv5 b x mo o i) → W p l e room_1 s m args below meth c H locs (cells + 20) (slots + 2200) Q (F0 m 1306 ls [])) : W p l e room_1 s m args below meth c H locs cells slots Q (F0 m 405 ls []) := by
  obtain ⟨tg, L, K, P, J, I, S, hF, hWT, ⟨hH, hM, hok, hTL⟩, kx, km, ko⟩ := hI
  have C0 := C.1
  refine lv_aload_n C0.1 C0.2.1 dL_law_405 rfl (lv_at hl 1 rfl) ?_
  refine lw_arg (jn := 1) (pc := 406) C hF.2.2.1 (lv_at hl 0 rfl) (lv_at hl 4 rfl) (by omega) hN dL_law_406 dL_law_407 dL_law_409 dL_law_410 dL_law_411 ?_
  refine lw_arg (jn := 2) (pc := 412) C hF.2.2.1 (lv_at hl 0 rfl) (lv_at hl 4 rfl) (by omega) hN dL_law_412 dL_law_413 dL_law_415 dL_law_416 dL_law_417 ?_
  refine lv_aload_n C0.1 C0.2.1 dL_law_418 rfl (lv_at hl 3 rfl) ?_
  refine fl_alm hF (fl_runSW (As := [.ref x, iv (sv xs (i + 1)), iv (sv xs (i + 2)), .ref o]) (rest := []) C0 hF C.2.1 hl.1 (d_test l hst D cy s.heap.size L K P J I hWT x (sv xs (i + 1)) (sv xs (i + 2)) o kx rg_sv rg_sv ko (KOut tg P I x (testS S (sv xs (i + 1)) (sv xs (i + 2)))) (h_test hH hok hTL hF.kl) (fun co r L1 K1 P1 I1 h => by rw [h.1.1]; exact testS_co)) aw_627 aw_628 aw_64 aw_629 rfl pm_L_test rfl rfl ⟨Nat.le_of_ble_eq_true rfl, Nat.le_of_ble_eq_true rfl⟩ rfl (Nat.le_of_ble_eq_true rfl) dL_law_419 ⟨show cells + 8 ≤ 601024 by omega, show slots + 2035 ≤ 7293034 by omega⟩) (fun co r L1 K1 P1 I1 H locs hF1 rh rr hpost hWT1 hEK => ?_)
  obtain ⟨⟨hco, hrq⟩, tg1, hH1, hTL1, hKL1, hMM⟩ := hpost
  have hM1 := hMM mo S hM hok
  have kx1 : K1 x = 8 := (hEK x (by rw [kx]; decide)).trans kx
  have km1 : K1 mo = 9 := (hEK mo (by rw [km]; decide)).trans km
  have ko1 : K1 o = 107 := (hEK o (by rw [ko]; decide)).trans ko
  have hok1 : (testS S (sv xs (i + 1)) (sv xs (i + 2))).2.2.ok := testS_ok hok
  refine lv_istore (lv' := (5, iv (hnm [3, 2] co)) :: lv5 b x mo o i) C0.1 C0.2.1 dL_law_422 hl (by decide) rfl (fun ls hl => ?_)
  have hl : lv_has ls 7 (lv6 b x mo o i (hnm [3, 2] co)) := lv_sub hl [1, 2, 3, 4, 5, 0] rfl
  refine lv_aload_n C0.1 C0.2.1 dL_law_424 rfl (lv_at hl 2 rfl) ?_
  refine lw_arg (jn := 1) (pc := 425) C hF1.2.2.1 (lv_at hl 0 rfl) (lv_at hl 4 rfl) (by omega) hN dL_law_425 dL_law_426 dL_law_428 dL_law_429 dL_law_430 ?_
  refine lw_arg (jn := 2) (pc := 431) C hF1.2.2.1 (lv_at hl 0 rfl) (lv_at hl 4 rfl) (by omega) hN dL_law_431 dL_law_432 dL_law_434 dL_law_435 dL_law_436 ?_
  obtain ⟨r2, I2, g1, g2, g3, g4, g5⟩ := x_test (K := K1) (v := (sv xs (i + 1))) (w := (sv xs (i + 2))) hM1 hok
  refine fl_ri hF1 (fl_runV (As := [iv (sv xs (i + 1)), iv (sv xs (i + 2))]) (rest := []) C0 hF1 hl.1 ck_9 km1 rfl (c_X8_test l D cy s.heap.size L1 K1 P1 (if co = 0 then up J o 0 r else J) hWT1 I1 mo (sv xs (i + 1)) (sv xs (i + 2)) km1 rg_sv rg_sv g1) aw_1049 aw_1050 aw_1051 aw_73 aw_1052 rfl rfl pm_X8_test rfl rfl ⟨Nat.le_of_ble_eq_true rfl, Nat.le_of_ble_eq_true rfl⟩ rfl (Nat.le_of_ble_eq_true rfl) dL_law_437 ⟨show cells + 8 + 0 ≤ 601024 by omega, show slots + 2035 + 0 ≤ 7293034 by omega⟩) (fun H locs hF2 rr2 => ?_)
  have hJ : hnm [3, 2] co = 0 → (if co = 0 then up J o 0 r else J) o 0 = r2 := fun h0 => by
    have hc0 := hnm0 h0
    rw [if_pos hc0, up_s, hrq hc0, g2 (hco ▸ hc0)]
  exact lw_tail (t := 440) C hF2 hWT1 km1 ko1 (by rw [g3, hco]) rh rr2 hJ hl dL_law_440 dL_law_442 dL_law_443 dL_law_446 dL_law_448 dL_law_453 dL_law_455 dL_law_458 dL_law_459 dL_law_460 dL_law_461 dL_law_463 dL_law_464 dL_law_465 dL_law_470 (by decide) (show cells + 8 + 0 ≤ 601024 by omega) (show slots + 2035 + 0 ≤ 7293034 by omega) (fun H locs ls hF3 hl => W.widen (by omega) (by omega) (kk H locs ls ⟨tg1, L1, K1, P1, _, I2, (testS S (sv xs (i + 1)) (sv xs (i + 2))).2.2, hF3, hWT1, ⟨hH1.fr (g5.mono (fun u => scr11)), g4, hok1, hTL1⟩, kx1, km1, ko1⟩ hl))
set_option maxRecDepth 100000 in
set_option maxHeartbeats 4000000 in
theorem lw_enter (hst : l.stackTraces = false) (C : LX p s m meth c D cy b N xs) (hi : i + 3 < N) (hN : N ≤ 2048) (hc : cells + 20 ≤ 601024) (hs : slots + 2200 ≤ 7293034) (hI : LI D cy s H locs x mo o) (hl : lv_has ls 7 (lv5 b x mo o i))
    (kk : ∀ (H : Heap) (locs : List Loc) (ls : Array Slot), LI D cy s H locs x mo o → lv_has ls 7 (lv5 b x mo o i) → W p l e room_1 s m args below meth c H locs (cells + 20) (slots + 2200) Q (F0 m 1306 ls [])) : W p l e room_1 s m args below meth c H locs cells slots Q (F0 m 701 ls []) := by
  obtain ⟨tg, L, K, P, J, I, S, hF, hWT, ⟨hH, hM, hok, hTL⟩, kx, km, ko⟩ := hI
  have C0 := C.1
  refine lv_aload_n C0.1 C0.2.1 dL_law_701 rfl (lv_at hl 1 rfl) ?_
  refine lw_arg (jn := 1) (pc := 702) C hF.2.2.1 (lv_at hl 0 rfl) (lv_at hl 4 rfl) (by omega) hN dL_law_702 dL_law_703 dL_law_705 dL_law_706 dL_law_707 ?_
  refine lw_arg (jn := 2) (pc := 708) C hF.2.2.1 (lv_at hl 0 rfl) (lv_at hl 4 rfl) (by omega) hN dL_law_708 dL_law_709 dL_law_711 dL_law_712 dL_law_713 ?_
  refine lv_aload_n C0.1 C0.2.1 dL_law_714 rfl (lv_at hl 3 rfl) ?_
  refine fl_alm hF (fl_runSW (As := [.ref x, iv (sv xs (i + 1)), iv (sv xs (i + 2)), .ref o]) (rest := []) C0 hF C.2.1 hl.1 (d_enter l hst D cy s.heap.size L K P J I hWT x (sv xs (i + 1)) (sv xs (i + 2)) o kx rg_sv rg_sv ko (KOut tg P I x (enterS S (sv xs (i + 1)) (sv xs (i + 2)))) (h_enter hH hok hTL hF.kl) (fun co r L1 K1 P1 I1 h => by rw [h.1.1]; exact enterS_co)) aw_726 aw_727 aw_64 aw_728 rfl pm_L_enter rfl rfl ⟨Nat.le_of_ble_eq_true rfl, Nat.le_of_ble_eq_true rfl⟩ rfl (Nat.le_of_ble_eq_true rfl) dL_law_715 ⟨show cells + 7 ≤ 601024 by omega, show slots + 2055 ≤ 7293034 by omega⟩) (fun co r L1 K1 P1 I1 H locs hF1 rh rr hpost hWT1 hEK => ?_)
  obtain ⟨⟨hco, hrq⟩, tg1, hH1, hTL1, hKL1, hMM⟩ := hpost
  have hM1 := hMM mo S hM hok
  have kx1 : K1 x = 8 := (hEK x (by rw [kx]; decide)).trans kx
  have km1 : K1 mo = 9 := (hEK mo (by rw [km]; decide)).trans km
  have ko1 : K1 o = 107 := (hEK o (by rw [ko]; decide)).trans ko
  have hok1 : (enterS S (sv xs (i + 1)) (sv xs (i + 2))).2.2.ok := enterS_ok hok
  refine lv_istore (lv' := (5, iv (hnm [3, 2] co)) :: lv5 b x mo o i) C0.1 C0.2.1 dL_law_718 hl (by decide) rfl (fun ls hl => ?_)
  have hl : lv_has ls 7 (lv6 b x mo o i (hnm [3, 2] co)) := lv_sub hl [1, 2, 3, 4, 5, 0] rfl
  refine lv_aload_n C0.1 C0.2.1 dL_law_720 rfl (lv_at hl 2 rfl) ?_
  refine lw_arg (jn := 1) (pc := 721) C hF1.2.2.1 (lv_at hl 0 rfl) (lv_at hl 4 rfl) (by omega) hN dL_law_721 dL_law_722 dL_law_724 dL_law_725 dL_law_726 ?_
  refine lw_arg (jn := 2) (pc := 727) C hF1.2.2.1 (lv_at hl 0 rfl) (lv_at hl 4 rfl) (by omega) hN dL_law_727 dL_law_728 dL_law_730 dL_law_731 dL_law_732 ?_
  obtain ⟨r2, I2, g1, g2, g3, g4, g5⟩ := x_enter (K := K1) (t := (sv xs (i + 1))) (p := (sv xs (i + 2))) hM1 hok
  refine fl_ri hF1 (fl_runV (As := [iv (sv xs (i + 1)), iv (sv xs (i + 2))]) (rest := []) C0 hF1 hl.1 ck_9 km1 rfl (c_X8_enter l D cy s.heap.size L1 K1 P1 (if co = 0 then up J o 0 r else J) hWT1 I1 mo (sv xs (i + 1)) (sv xs (i + 2)) km1 rg_sv rg_sv g1) aw_1080 aw_1081 aw_1082 aw_73 aw_1083 rfl rfl pm_X8_enter rfl rfl ⟨Nat.le_of_ble_eq_true rfl, Nat.le_of_ble_eq_true rfl⟩ rfl (Nat.le_of_ble_eq_true rfl) dL_law_733 ⟨show cells + 7 + 0 ≤ 601024 by omega, show slots + 2055 + 0 ≤ 7293034 by omega⟩) (fun H locs hF2 rr2 => ?_)
  have hJ : hnm [3, 2] co = 0 → (if co = 0 then up J o 0 r else J) o 0 = r2 := fun h0 => by
    have hc0 := hnm0 h0
    rw [if_pos hc0, up_s, hrq hc0, g2 (hco ▸ hc0)]
  exact lw_tail (t := 736) C hF2 hWT1 km1 ko1 (by rw [g3, hco]) rh rr2 hJ hl dL_law_736 dL_law_738 dL_law_739 dL_law_742 dL_law_744 dL_law_749 dL_law_751 dL_law_754 dL_law_755 dL_law_756 dL_law_757 dL_law_759 dL_law_760 dL_law_761 dL_law_766 (by decide) (show cells + 7 + 0 ≤ 601024 by omega) (show slots + 2055 + 0 ≤ 7293034 by omega) (fun H locs ls hF3 hl => W.widen (by omega) (by omega) (kk H locs ls ⟨tg1, L1, K1, P1, _, I2, (enterS S (sv xs (i + 1)) (sv xs (i + 2))).2.2, hF3, hWT1, ⟨hH1.fr (g5.mono (fun u => scr11)), g4, hok1, hTL1⟩, kx1, km1, ko1⟩ hl))
set_option maxRecDepth 100000 in
set_option maxHeartbeats 4000000 in
theorem lw_hack (hst : l.stackTraces = false) (C : LX p s m meth c D cy b N xs) (hi : i + 3 < N) (hN : N ≤ 2048) (hc : cells + 20 ≤ 601024) (hs : slots + 2200 ≤ 7293034) (hI : LI D cy s H locs x mo o) (hl : lv_has ls 7 (lv5 b x mo o i))
    (kk : ∀ (H : Heap) (locs : List Loc) (ls : Array Slot), LI D cy s H locs x mo o → lv_has ls 7 (lv5 b x mo o i) → W p l e room_1 s m args below meth c H locs (cells + 20) (slots + 2200) Q (F0 m 1306 ls [])) : W p l e room_1 s m args below meth c H locs cells slots Q (F0 m 1231 ls []) := by
  obtain ⟨tg, L, K, P, J, I, S, hF, hWT, ⟨hH, hM, hok, hTL⟩, kx, km, ko⟩ := hI
  have C0 := C.1
  refine lv_aload_n C0.1 C0.2.1 dL_law_1231 rfl (lv_at hl 1 rfl) ?_
  refine lw_arg (jn := 1) (pc := 1232) C hF.2.2.1 (lv_at hl 0 rfl) (lv_at hl 4 rfl) (by omega) hN dL_law_1232 dL_law_1233 dL_law_1235 dL_law_1236 dL_law_1237 ?_
  refine lw_arg (jn := 2) (pc := 1238) C hF.2.2.1 (lv_at hl 0 rfl) (lv_at hl 4 rfl) (by omega) hN dL_law_1238 dL_law_1239 dL_law_1241 dL_law_1242 dL_law_1243 ?_
  refine lv_aload_n C0.1 C0.2.1 dL_law_1244 rfl (lv_at hl 3 rfl) ?_
  refine fl_alm hF (fl_runSW (As := [.ref x, iv (sv xs (i + 1)), iv (sv xs (i + 2)), .ref o]) (rest := []) C0 hF C.2.1 hl.1 (d_hack l hst D cy s.heap.size L K P J I hWT x (sv xs (i + 1)) (sv xs (i + 2)) o kx rg_sv rg_sv ko (KOut tg P I x (hackS S (sv xs (i + 1)) (sv xs (i + 2)))) (h_hack hH hok hTL hF.kl) (fun co r L1 K1 P1 I1 h => by rw [h.1.1]; exact hackS_co)) aw_854 aw_855 aw_64 aw_856 rfl pm_L_hack rfl rfl ⟨Nat.le_of_ble_eq_true rfl, Nat.le_of_ble_eq_true rfl⟩ rfl (Nat.le_of_ble_eq_true rfl) dL_law_1245 ⟨show cells + 8 ≤ 601024 by omega, show slots + 2035 ≤ 7293034 by omega⟩) (fun co r L1 K1 P1 I1 H locs hF1 rh rr hpost hWT1 hEK => ?_)
  obtain ⟨⟨hco, hrq⟩, tg1, hH1, hTL1, hKL1, hMM⟩ := hpost
  have hM1 := hMM mo S hM hok
  have kx1 : K1 x = 8 := (hEK x (by rw [kx]; decide)).trans kx
  have km1 : K1 mo = 9 := (hEK mo (by rw [km]; decide)).trans km
  have ko1 : K1 o = 107 := (hEK o (by rw [ko]; decide)).trans ko
  have hok1 : (hackS S (sv xs (i + 1)) (sv xs (i + 2))).2.2.ok := hackS_ok hok
  refine lv_istore (lv' := (5, iv (hnm [3, 2] co)) :: lv5 b x mo o i) C0.1 C0.2.1 dL_law_1248 hl (by decide) rfl (fun ls hl => ?_)
  have hl : lv_has ls 7 (lv6 b x mo o i (hnm [3, 2] co)) := lv_sub hl [1, 2, 3, 4, 5, 0] rfl
  refine lv_aload_n C0.1 C0.2.1 dL_law_1250 rfl (lv_at hl 2 rfl) ?_
  refine lw_arg (jn := 1) (pc := 1251) C hF1.2.2.1 (lv_at hl 0 rfl) (lv_at hl 4 rfl) (by omega) hN dL_law_1251 dL_law_1252 dL_law_1254 dL_law_1255 dL_law_1256 ?_
  refine lw_arg (jn := 2) (pc := 1257) C hF1.2.2.1 (lv_at hl 0 rfl) (lv_at hl 4 rfl) (by omega) hN dL_law_1257 dL_law_1258 dL_law_1260 dL_law_1261 dL_law_1262 ?_
  obtain ⟨r2, I2, g1, g2, g3, g4, g5⟩ := x_hack (K := K1) (v := (sv xs (i + 1))) (w := (sv xs (i + 2))) hM1 hok
  refine fl_ri hF1 (fl_runV (As := [iv (sv xs (i + 1)), iv (sv xs (i + 2))]) (rest := []) C0 hF1 hl.1 ck_9 km1 rfl (c_X8_hack l D cy s.heap.size L1 K1 P1 (if co = 0 then up J o 0 (if r = 0 then 0 else 1) else J) hWT1 I1 mo (sv xs (i + 1)) (sv xs (i + 2)) km1 rg_sv rg_sv g1) aw_1171 aw_1172 aw_1173 aw_73 aw_1174 rfl rfl pm_X8_hack rfl rfl ⟨Nat.le_of_ble_eq_true rfl, Nat.le_of_ble_eq_true rfl⟩ rfl (Nat.le_of_ble_eq_true rfl) dL_law_1263 ⟨show cells + 8 + 0 ≤ 601024 by omega, show slots + 2035 + 0 ≤ 7293034 by omega⟩) (fun H locs hF2 rr2 => ?_)
  have hJ : hnm [3, 2] co = 0 → (if co = 0 then up J o 0 (if r = 0 then 0 else 1) else J) o 0 = (if r2 = 0 then 0 else 1) := fun h0 => by
    have hc0 := hnm0 h0
    rw [if_pos hc0, up_s, hrq hc0, g2 (hco ▸ hc0)]
  exact lw_tailZ (t := 1266) C hF2 hWT1 km1 ko1 (by rw [g3, hco]) rh rr2 hJ hl dL_law_1266 dL_law_1268 dL_law_1269 dL_law_1272 dL_law_1274 dL_law_1279 dL_law_1281 dL_law_1284 dL_law_1285 dL_law_1286 dL_law_1287 dL_law_1289 dL_law_1292 dL_law_1293 dL_law_1296 dL_law_1297 dL_law_1298 dL_law_1303 rfl (show cells + 8 + 0 ≤ 601024 by omega) (show slots + 2035 + 0 ≤ 7293034 by omega) (fun H locs ls hF3 hl => W.widen (by omega) (by omega) (kk H locs ls ⟨tg1, L1, K1, P1, _, I2, (hackS S (sv xs (i + 1)) (sv xs (i + 2))).2.2, hF3, hWT1, ⟨hH1.fr (g5.mono (fun u => scr11)), g4, hok1, hTL1⟩, kx1, km1, ko1⟩ hl))
end LW3
