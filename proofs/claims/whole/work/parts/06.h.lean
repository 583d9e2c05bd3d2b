set_option maxRecDepth 20000 in
theorem LW_law_18 {X : SX} {d : Nat} {st : List Value} {h : HH} {Q : Int32 → HH → Prop} {a0 a1 a2 : Value} {x : Int32}  (kk : E X d LW_law 19 [a0, a1, a2, .int x] (.int x :: st) h Q) : E X d LW_law 18 [a0, a1, a2, .int x] st h Q := Ev.iload_n (by decide +kernel : decode LW_law.2.1 18 = .ok (.iload_n 3, 1)) rfl rfl kk
set_option maxRecDepth 20000 in
theorem LW_law_19 {X : SX} {d : Nat} {st : List Value} {h : HH} {Q : Int32 → HH → Prop} {a1 a2 a3 : Value}   (kk : E X d LW_law 20 [.ref 1003, a1, a2, a3] (.ref 1003 :: st) h Q) : E X d LW_law 19 [.ref 1003, a1, a2, a3] st h Q := Ev.aload_n (by decide +kernel : decode LW_law.2.1 19 = .ok (.aload_n 0, 1)) rfl rfl kk
set_option maxRecDepth 20000 in
theorem LW_law_20 {X : SX} {d : Nat} {L : List Value} {st : List Value} {h : HH} {Q : Int32 → HH → Prop}   (kk : E X d LW_law 21 L (.int (Int32.ofNat X.1) :: st) h Q) : E X d LW_law 20 L (.ref 1003 :: st) h Q := Ev.tScriptLen (by decide +kernel : decode LW_law.2.1 20 = .ok (.arraylength, 1)) kk
set_option maxRecDepth 20000 in
theorem LW_law_21 {X : SX} {d : Nat} {L : List Value} {st : List Value} {h : HH} {Q : Int32 → HH → Prop}   (kk : E X d LW_law 23 L (.int 7 :: st) h Q) : E X d LW_law 21 L st h Q := Ev.bipush (by decide +kernel : decode LW_law.2.1 21 = .ok (.bipush 7, 2)) (by decide +kernel) kk
set_option maxRecDepth 20000 in
theorem LW_law_23 {X : SX} {d : Nat} {L : List Value} {st : List Value} {h : HH} {Q : Int32 → HH → Prop} {x z : Int32}  (kk : E X d LW_law 24 L (.int (x - z) :: st) h Q) : E X d LW_law 23 L (.int z :: .int x :: st) h Q := Ev.isub (by decide +kernel : decode LW_law.2.1 23 = .ok (.isub, 1)) kk
set_option maxRecDepth 20000 in
theorem LW_law_24 {X : SX} {d : Nat} {L : List Value} {st : List Value} {h : HH} {Q : Int32 → HH → Prop} {x z : Int32}  (kt : z < x → E X d LW_law 1483 L st h Q) (kf : ¬ z < x → E X d LW_law 27 L st h Q) : E X d LW_law 24 L (.int z :: .int x :: st) h Q := Ev.icmp_gt (tgt := 1483) (by decide +kernel : decode LW_law.2.1 24 = .ok (.if_icmp .gt 1459, 3)) (by decide) kt kf
set_option maxRecDepth 20000 in
theorem LW_law_27 {X : SX} {d : Nat} {st : List Value} {h : HH} {Q : Int32 → HH → Prop} {a1 a2 a3 : Value}   (kk : E X d LW_law 28 [.ref 1003, a1, a2, a3] (.ref 1003 :: st) h Q) : E X d LW_law 27 [.ref 1003, a1, a2, a3] st h Q := Ev.aload_n (by decide +kernel : decode LW_law.2.1 27 = .ok (.aload_n 0, 1)) rfl rfl kk
set_option maxRecDepth 20000 in
theorem LW_law_28 {X : SX} {d : Nat} {st : List Value} {h : HH} {Q : Int32 → HH → Prop} {a0 a1 a2 : Value} {x : Int32}  (kk : E X d LW_law 29 [a0, a1, a2, .int x] (.int x :: st) h Q) : E X d LW_law 28 [a0, a1, a2, .int x] st h Q := Ev.iload_n (by decide +kernel : decode LW_law.2.1 28 = .ok (.iload_n 3, 1)) rfl rfl kk
set_option maxRecDepth 20000 in
theorem LW_law_29 {X : SX} {d : Nat} {L : List Value} {st : List Value} {h : HH} {Q : Int32 → HH → Prop} {i : Int32} (hi : vp_in i X.1) (kk : E X d LW_law 30 L (.int (X.2 i.toNatClampNeg) :: st) h Q) : E X d LW_law 29 L (.int i :: .ref 1003 :: st) h Q := Ev.tScript (by decide +kernel : decode LW_law.2.1 29 = .ok (.iaload, 1)) hi kk
set_option maxRecDepth 20000 in
theorem LW_law_30 {X : SX} {d : Nat} {L : List Value} {st : List Value} {h : HH} {Q : Int32 → HH → Prop}   (kk : E X d LW_law 32 L (.int 63 :: st) h Q) : E X d LW_law 30 L st h Q := Ev.bipush (by decide +kernel : decode LW_law.2.1 30 = .ok (.bipush 63, 2)) (by decide +kernel) kk
set_option maxRecDepth 20000 in
theorem LW_law_32 {X : SX} {d : Nat} {L : List Value} {st : List Value} {h : HH} {Q : Int32 → HH → Prop} {x z : Int32}  (kk : E X d LW_law 33 L (.int (x &&& z) :: st) h Q) : E X d LW_law 32 L (.int z :: .int x :: st) h Q := Ev.iand (by decide +kernel : decode LW_law.2.1 32 = .ok (.iand, 1)) kk
set_option maxRecDepth 20000 in
theorem LW_law_33 {X : SX} {d : Nat} {L : List Value} {st : List Value} {h : HH} {Q : Int32 → HH → Prop} {x : Int32}  (c0 : x = 0 → E X d LW_law 180 L st h Q) (c1 : x = 1 → E X d LW_law 213 L st h Q) (c2 : x = 2 → E X d LW_law 256 L st h Q) (c3 : x = 3 → E X d LW_law 299 L st h Q) (c4 : x = 4 → E X d LW_law 332 L st h Q) (c5 : x = 5 → E X d LW_law 355 L st h Q) (c6 : x = 6 → E X d LW_law 408 L st h Q) (c7 : x = 7 → E X d LW_law 487 L st h Q) (c8 : x = 8 → E X d LW_law 510 L st h Q) (c9 : x = 9 → E X d LW_law 523 L st h Q) (c10 : x = 10 → E X d LW_law 576 L st h Q) (c11 : x = 11 → E X d LW_law 619 L st h Q) (c12 : x = 12 → E X d LW_law 662 L st h Q) (c13 : x = 13 → E X d LW_law 675 L st h Q) (c14 : x = 14 → E X d LW_law 688 L st h Q) (c15 : x = 15 → E X d LW_law 721 L st h Q) (c16 : x = 16 → E X d LW_law 774 L st h Q) (c17 : x = 17 → E X d LW_law 827 L st h Q) (c18 : x = 18 → E X d LW_law 870 L st h Q) (c19 : x = 19 → E X d LW_law 923 L st h Q) (c20 : x = 20 → E X d LW_law 956 L st h Q) (c21 : x = 21 → E X d LW_law 989 L st h Q) (c22 : x = 22 → E X d LW_law 1032 L st h Q) (c23 : x = 23 → E X d LW_law 1085 L st h Q) (c24 : x = 24 → E X d LW_law 1128 L st h Q) (c25 : x = 25 → E X d LW_law 1171 L st h Q) (c26 : x = 26 → E X d LW_law 1194 L st h Q) (c27 : x = 27 → E X d LW_law 1237 L st h Q) (c28 : x = 28 → E X d LW_law 1260 L st h Q) (c29 : x = 29 → E X d LW_law 1303 L st h Q) (c30 : x = 30 → E X d LW_law 1346 L st h Q) (c31 : x = 31 → E X d LW_law 1421 L st h Q) (c32 : x = 32 → E X d LW_law 1464 L st h Q) (cd : (x.toInt < 0 ∨ 32 < x.toInt) → E X d LW_law 1477 L st h Q) : E X d LW_law 33 L (.int x :: st) h Q := by
  by_cases hx : x.toInt < 0 ∨ 32 < x.toInt
  · exact Ev.tableOut (by decide +kernel : decode LW_law.2.1 33 = .ok (.tableswitch 1444 0 32 #[147, 180, 223, 266, 299, 322, 375, 454, 477, 490, 543, 586, 629, 642, 655, 688, 741, 794, 837, 890, 923, 956, 999, 1052, 1095, 1138, 1161, 1204, 1227, 1270, 1313, 1388, 1431], 147)) hx (by decide) (cd hx)
  · obtain ⟨j, hj, hq⟩ : ∃ j : Nat, j < 33 ∧ x.toInt = (0 : Int) + j := ⟨(x.toInt - (0)).toNat, by omega, by omega⟩
    match j, hj, hq with
    | 0, _, hq => exact Ev.tableIn (off := 147) (tgt := 180) (by decide +kernel : decode LW_law.2.1 33 = .ok (.tableswitch 1444 0 32 #[147, 180, 223, 266, 299, 322, 375, 454, 477, 490, 543, 586, 629, 642, 655, 688, 741, 794, 837, 890, 923, 956, 999, 1052, 1095, 1138, 1161, 1204, 1227, 1270, 1313, 1388, 1431], 147)) (by omega) (by omega) (by rw [show (x.toInt - (0)).toNat = 0 by omega]; rfl) (by decide) (c0 (Int32.toInt_inj.mp (hq.trans (by decide +kernel))))
    | 1, _, hq => exact Ev.tableIn (off := 180) (tgt := 213) (by decide +kernel : decode LW_law.2.1 33 = .ok (.tableswitch 1444 0 32 #[147, 180, 223, 266, 299, 322, 375, 454, 477, 490, 543, 586, 629, 642, 655, 688, 741, 794, 837, 890, 923, 956, 999, 1052, 1095, 1138, 1161, 1204, 1227, 1270, 1313, 1388, 1431], 147)) (by omega) (by omega) (by rw [show (x.toInt - (0)).toNat = 1 by omega]; rfl) (by decide) (c1 (Int32.toInt_inj.mp (hq.trans (by decide +kernel))))
    | 2, _, hq => exact Ev.tableIn (off := 223) (tgt := 256) (by decide +kernel : decode LW_law.2.1 33 = .ok (.tableswitch 1444 0 32 #[147, 180, 223, 266, 299, 322, 375, 454, 477, 490, 543, 586, 629, 642, 655, 688, 741, 794, 837, 890, 923, 956, 999, 1052, 1095, 1138, 1161, 1204, 1227, 1270, 1313, 1388, 1431], 147)) (by omega) (by omega) (by rw [show (x.toInt - (0)).toNat = 2 by omega]; rfl) (by decide) (c2 (Int32.toInt_inj.mp (hq.trans (by decide +kernel))))
    | 3, _, hq => exact Ev.tableIn (off := 266) (tgt := 299) (by decide +kernel : decode LW_law.2.1 33 = .ok (.tableswitch 1444 0 32 #[147, 180, 223, 266, 299, 322, 375, 454, 477, 490, 543, 586, 629, 642, 655, 688, 741, 794, 837, 890, 923, 956, 999, 1052, 1095, 1138, 1161, 1204, 1227, 1270, 1313, 1388, 1431], 147)) (by omega) (by omega) (by rw [show (x.toInt - (0)).toNat = 3 by omega]; rfl) (by decide) (c3 (Int32.toInt_inj.mp (hq.trans (by decide +kernel))))
    | 4, _, hq => exact Ev.tableIn (off := 299) (tgt := 332) (by decide +kernel : decode LW_law.2.1 33 = .ok (.tableswitch 1444 0 32 #[147, 180, 223, 266, 299, 322, 375, 454, 477, 490, 543, 586, 629, 642, 655, 688, 741, 794, 837, 890, 923, 956, 999, 1052, 1095, 1138, 1161, 1204, 1227, 1270, 1313, 1388, 1431], 147)) (by omega) (by omega) (by rw [show (x.toInt - (0)).toNat = 4 by omega]; rfl) (by decide) (c4 (Int32.toInt_inj.mp (hq.trans (by decide +kernel))))
    | 5, _, hq => exact Ev.tableIn (off := 322) (tgt := 355) (by decide +kernel : decode LW_law.2.1 33 = .ok (.tableswitch 1444 0 32 #[147, 180, 223, 266, 299, 322, 375, 454, 477, 490, 543, 586, 629, 642, 655, 688, 741, 794, 837, 890, 923, 956, 999, 1052, 1095, 1138, 1161, 1204, 1227, 1270, 1313, 1388, 1431], 147)) (by omega) (by omega) (by rw [show (x.toInt - (0)).toNat = 5 by omega]; rfl) (by decide) (c5 (Int32.toInt_inj.mp (hq.trans (by decide +kernel))))
    | 6, _, hq => exact Ev.tableIn (off := 375) (tgt := 408) (by decide +kernel : decode LW_law.2.1 33 = .ok (.tableswitch 1444 0 32 #[147, 180, 223, 266, 299, 322, 375, 454, 477, 490, 543, 586, 629, 642, 655, 688, 741, 794, 837, 890, 923, 956, 999, 1052, 1095, 1138, 1161, 1204, 1227, 1270, 1313, 1388, 1431], 147)) (by omega) (by omega) (by rw [show (x.toInt - (0)).toNat = 6 by omega]; rfl) (by decide) (c6 (Int32.toInt_inj.mp (hq.trans (by decide +kernel))))
    | 7, _, hq => exact Ev.tableIn (off := 454) (tgt := 487) (by decide +kernel : decode LW_law.2.1 33 = .ok (.tableswitch 1444 0 32 #[147, 180, 223, 266, 299, 322, 375, 454, 477, 490, 543, 586, 629, 642, 655, 688, 741, 794, 837, 890, 923, 956, 999, 1052, 1095, 1138, 1161, 1204, 1227, 1270, 1313, 1388, 1431], 147)) (by omega) (by omega) (by rw [show (x.toInt - (0)).toNat = 7 by omega]; rfl) (by decide) (c7 (Int32.toInt_inj.mp (hq.trans (by decide +kernel))))
    | 8, _, hq => exact Ev.tableIn (off := 477) (tgt := 510) (by decide +kernel : decode LW_law.2.1 33 = .ok (.tableswitch 1444 0 32 #[147, 180, 223, 266, 299, 322, 375, 454, 477, 490, 543, 586, 629, 642, 655, 688, 741, 794, 837, 890, 923, 956, 999, 1052, 1095, 1138, 1161, 1204, 1227, 1270, 1313, 1388, 1431], 147)) (by omega) (by omega) (by rw [show (x.toInt - (0)).toNat = 8 by omega]; rfl) (by decide) (c8 (Int32.toInt_inj.mp (hq.trans (by decide +kernel))))
    | 9, _, hq => exact Ev.tableIn (off := 490) (tgt := 523) (by decide +kernel : decode LW_law.2.1 33 = .ok (.tableswitch 1444 0 32 #[147, 180, 223, 266, 299, 322, 375, 454, 477, 490, 543, 586, 629, 642, 655, 688, 741, 794, 837, 890, 923, 956, 999, 1052, 1095, 1138, 1161, 1204, 1227, 1270, 1313, 1388, 1431], 147)) (by omega) (by omega) (by rw [show (x.toInt - (0)).toNat = 9 by omega]; rfl) (by decide) (c9 (Int32.toInt_inj.mp (hq.trans (by decide +kernel))))
    | 10, _, hq => exact Ev.tableIn (off := 543) (tgt := 576) (by decide +kernel : decode LW_law.2.1 33 = .ok (.tableswitch 1444 0 32 #[147, 180, 223, 266, 299, 322, 375, 454, 477, 490, 543, 586, 629, 642, 655, 688, 741, 794, 837, 890, 923, 956, 999, 1052, 1095, 1138, 1161, 1204, 1227, 1270, 1313, 1388, 1431], 147)) (by omega) (by omega) (by rw [show (x.toInt - (0)).toNat = 10 by omega]; rfl) (by decide) (c10 (Int32.toInt_inj.mp (hq.trans (by decide +kernel))))
    | 11, _, hq => exact Ev.tableIn (off := 586) (tgt := 619) (by decide +kernel : decode LW_law.2.1 33 = .ok (.tableswitch 1444 0 32 #[147, 180, 223, 266, 299, 322, 375, 454, 477, 490, 543, 586, 629, 642, 655, 688, 741, 794, 837, 890, 923, 956, 999, 1052, 1095, 1138, 1161, 1204, 1227, 1270, 1313, 1388, 1431], 147)) (by omega) (by omega) (by rw [show (x.toInt - (0)).toNat = 11 by omega]; rfl) (by decide) (c11 (Int32.toInt_inj.mp (hq.trans (by decide +kernel))))
    | 12, _, hq => exact Ev.tableIn (off := 629) (tgt := 662) (by decide +kernel : decode LW_law.2.1 33 = .ok (.tableswitch 1444 0 32 #[147, 180, 223, 266, 299, 322, 375, 454, 477, 490, 543, 586, 629, 642, 655, 688, 741, 794, 837, 890, 923, 956, 999, 1052, 1095, 1138, 1161, 1204, 1227, 1270, 1313, 1388, 1431], 147)) (by omega) (by omega) (by rw [show (x.toInt - (0)).toNat = 12 by omega]; rfl) (by decide) (c12 (Int32.toInt_inj.mp (hq.trans (by decide +kernel))))
    | 13, _, hq => exact Ev.tableIn (off := 642) (tgt := 675) (by decide +kernel : decode LW_law.2.1 33 = .ok (.tableswitch 1444 0 32 #[147, 180, 223, 266, 299, 322, 375, 454, 477, 490, 543, 586, 629, 642, 655, 688, 741, 794, 837, 890, 923, 956, 999, 1052, 1095, 1138, 1161, 1204, 1227, 1270, 1313, 1388, 1431], 147)) (by omega) (by omega) (by rw [show (x.toInt - (0)).toNat = 13 by omega]; rfl) (by decide) (c13 (Int32.toInt_inj.mp (hq.trans (by decide +kernel))))
    | 14, _, hq => exact Ev.tableIn (off := 655) (tgt := 688) (by decide +kernel : decode LW_law.2.1 33 = .ok (.tableswitch 1444 0 32 #[147, 180, 223, 266, 299, 322, 375, 454, 477, 490, 543, 586, 629, 642, 655, 688, 741, 794, 837, 890, 923, 956, 999, 1052, 1095, 1138, 1161, 1204, 1227, 1270, 1313, 1388, 1431], 147)) (by omega) (by omega) (by rw [show (x.toInt - (0)).toNat = 14 by omega]; rfl) (by decide) (c14 (Int32.toInt_inj.mp (hq.trans (by decide +kernel))))
    | 15, _, hq => exact Ev.tableIn (off := 688) (tgt := 721) (by decide +kernel : decode LW_law.2.1 33 = .ok (.tableswitch 1444 0 32 #[147, 180, 223, 266, 299, 322, 375, 454, 477, 490, 543, 586, 629, 642, 655, 688, 741, 794, 837, 890, 923, 956, 999, 1052, 1095, 1138, 1161, 1204, 1227, 1270, 1313, 1388, 1431], 147)) (by omega) (by omega) (by rw [show (x.toInt - (0)).toNat = 15 by omega]; rfl) (by decide) (c15 (Int32.toInt_inj.mp (hq.trans (by decide +kernel))))
    | 16, _, hq => exact Ev.tableIn (off := 741) (tgt := 774) (by decide +kernel : decode LW_law.2.1 33 = .ok (.tableswitch 1444 0 32 #[147, 180, 223, 266, 299, 322, 375, 454, 477, 490, 543, 586, 629, 642, 655, 688, 741, 794, 837, 890, 923, 956, 999, 1052, 1095, 1138, 1161, 1204, 1227, 1270, 1313, 1388, 1431], 147)) (by omega) (by omega) (by rw [show (x.toInt - (0)).toNat = 16 by omega]; rfl) (by decide) (c16 (Int32.toInt_inj.mp (hq.trans (by decide +kernel))))
    | 17, _, hq => exact Ev.tableIn (off := 794) (tgt := 827) (by decide +kernel : decode LW_law.2.1 33 = .ok (.tableswitch 1444 0 32 #[147, 180, 223, 266, 299, 322, 375, 454, 477, 490, 543, 586, 629, 642, 655, 688, 741, 794, 837, 890, 923, 956, 999, 1052, 1095, 1138, 1161, 1204, 1227, 1270, 1313, 1388, 1431], 147)) (by omega) (by omega) (by rw [show (x.toInt - (0)).toNat = 17 by omega]; rfl) (by decide) (c17 (Int32.toInt_inj.mp (hq.trans (by decide +kernel))))
    | 18, _, hq => exact Ev.tableIn (off := 837) (tgt := 870) (by decide +kernel : decode LW_law.2.1 33 = .ok (.tableswitch 1444 0 32 #[147, 180, 223, 266, 299, 322, 375, 454, 477, 490, 543, 586, 629, 642, 655, 688, 741, 794, 837, 890, 923, 956, 999, 1052, 1095, 1138, 1161, 1204, 1227, 1270, 1313, 1388, 1431], 147)) (by omega) (by omega) (by rw [show (x.toInt - (0)).toNat = 18 by omega]; rfl) (by decide) (c18 (Int32.toInt_inj.mp (hq.trans (by decide +kernel))))
    | 19, _, hq => exact Ev.tableIn (off := 890) (tgt := 923) (by decide +kernel : decode LW_law.2.1 33 = .ok (.tableswitch 1444 0 32 #[147, 180, 223, 266, 299, 322, 375, 454, 477, 490, 543, 586, 629, 642, 655, 688, 741, 794, 837, 890, 923, 956, 999, 1052, 1095, 1138, 1161, 1204, 1227, 1270, 1313, 1388, 1431], 147)) (by omega) (by omega) (by rw [show (x.toInt - (0)).toNat = 19 by omega]; rfl) (by decide) (c19 (Int32.toInt_inj.mp (hq.trans (by decide +kernel))))
    | 20, _, hq => exact Ev.tableIn (off := 923) (tgt := 956) (by decide +kernel : decode LW_law.2.1 33 = .ok (.tableswitch 1444 0 32 #[147, 180, 223, 266, 299, 322, 375, 454, 477, 490, 543, 586, 629, 642, 655, 688, 741, 794, 837, 890, 923, 956, 999, 1052, 1095, 1138, 1161, 1204, 1227, 1270, 1313, 1388, 1431], 147)) (by omega) (by omega) (by rw [show (x.toInt - (0)).toNat = 20 by omega]; rfl) (by decide) (c20 (Int32.toInt_inj.mp (hq.trans (by decide +kernel))))
    | 21, _, hq => exact Ev.tableIn (off := 956) (tgt := 989) (by decide +kernel : decode LW_law.2.1 33 = .ok (.tableswitch 1444 0 32 #[147, 180, 223, 266, 299, 322, 375, 454, 477, 490, 543, 586, 629, 642, 655, 688, 741, 794, 837, 890, 923, 956, 999, 1052, 1095, 1138, 1161, 1204, 1227, 1270, 1313, 1388, 1431], 147)) (by omega) (by omega) (by rw [show (x.toInt - (0)).toNat = 21 by omega]; rfl) (by decide) (c21 (Int32.toInt_inj.mp (hq.trans (by decide +kernel))))
    | 22, _, hq => exact Ev.tableIn (off := 999) (tgt := 1032) (by decide +kernel : decode LW_law.2.1 33 = .ok (.tableswitch 1444 0 32 #[147, 180, 223, 266, 299, 322, 375, 454, 477, 490, 543, 586, 629, 642, 655, 688, 741, 794, 837, 890, 923, 956, 999, 1052, 1095, 1138, 1161, 1204, 1227, 1270, 1313, 1388, 1431], 147)) (by omega) (by omega) (by rw [show (x.toInt - (0)).toNat = 22 by omega]; rfl) (by decide) (c22 (Int32.toInt_inj.mp (hq.trans (by decide +kernel))))
    | 23, _, hq => exact Ev.tableIn (off := 1052) (tgt := 1085) (by decide +kernel : decode LW_law.2.1 33 = .ok (.tableswitch 1444 0 32 #[147, 180, 223, 266, 299, 322, 375, 454, 477, 490, 543, 586, 629, 642, 655, 688, 741, 794, 837, 890, 923, 956, 999, 1052, 1095, 1138, 1161, 1204, 1227, 1270, 1313, 1388, 1431], 147)) (by omega) (by omega) (by rw [show (x.toInt - (0)).toNat = 23 by omega]; rfl) (by decide) (c23 (Int32.toInt_inj.mp (hq.trans (by decide +kernel))))
    | 24, _, hq => exact Ev.tableIn (off := 1095) (tgt := 1128) (by decide +kernel : decode LW_law.2.1 33 = .ok (.tableswitch 1444 0 32 #[147, 180, 223, 266, 299, 322, 375, 454, 477, 490, 543, 586, 629, 642, 655, 688, 741, 794, 837, 890, 923, 956, 999, 1052, 1095, 1138, 1161, 1204, 1227, 1270, 1313, 1388, 1431], 147)) (by omega) (by omega) (by rw [show (x.toInt - (0)).toNat = 24 by omega]; rfl) (by decide) (c24 (Int32.toInt_inj.mp (hq.trans (by decide +kernel))))
    | 25, _, hq => exact Ev.tableIn (off := 1138) (tgt := 1171) (by decide +kernel : decode LW_law.2.1 33 = .ok (.tableswitch 1444 0 32 #[147, 180, 223, 266, 299, 322, 375, 454, 477, 490, 543, 586, 629, 642, 655, 688, 741, 794, 837, 890, 923, 956, 999, 1052, 1095, 1138, 1161, 1204, 1227, 1270, 1313, 1388, 1431], 147)) (by omega) (by omega) (by rw [show (x.toInt - (0)).toNat = 25 by omega]; rfl) (by decide) (c25 (Int32.toInt_inj.mp (hq.trans (by decide +kernel))))
    | 26, _, hq => exact Ev.tableIn (off := 1161) (tgt := 1194) (by decide +kernel : decode LW_law.2.1 33 = .ok (.tableswitch 1444 0 32 #[147, 180, 223, 266, 299, 322, 375, 454, 477, 490, 543, 586, 629, 642, 655, 688, 741, 794, 837, 890, 923, 956, 999, 1052, 1095, 1138, 1161, 1204, 1227, 1270, 1313, 1388, 1431], 147)) (by omega) (by omega) (by rw [show (x.toInt - (0)).toNat = 26 by omega]; rfl) (by decide) (c26 (Int32.toInt_inj.mp (hq.trans (by decide +kernel))))
    | 27, _, hq => exact Ev.tableIn (off := 1204) (tgt := 1237) (by decide +kernel : decode LW_law.2.1 33 = .ok (.tableswitch 1444 0 32 #[147, 180, 223, 266, 299, 322, 375, 454, 477, 490, 543, 586, 629, 642, 655, 688, 741, 794, 837, 890, 923, 956, 999, 1052, 1095, 1138, 1161, 1204, 1227, 1270, 1313, 1388, 1431], 147)) (by omega) (by omega) (by rw [show (x.toInt - (0)).toNat = 27 by omega]; rfl) (by decide) (c27 (Int32.toInt_inj.mp (hq.trans (by decide +kernel))))
    | 28, _, hq => exact Ev.tableIn (off := 1227) (tgt := 1260) (by decide +kernel : decode LW_law.2.1 33 = .ok (.tableswitch 1444 0 32 #[147, 180, 223, 266, 299, 322, 375, 454, 477, 490, 543, 586, 629, 642, 655, 688, 741, 794, 837, 890, 923, 956, 999, 1052, 1095, 1138, 1161, 1204, 1227, 1270, 1313, 1388, 1431], 147)) (by omega) (by omega) (by rw [show (x.toInt - (0)).toNat = 28 by omega]; rfl) (by decide) (c28 (Int32.toInt_inj.mp (hq.trans (by decide +kernel))))
    | 29, _, hq => exact Ev.tableIn (off := 1270) (tgt := 1303) (by decide +kernel : decode LW_law.2.1 33 = .ok (.tableswitch 1444 0 32 #[147, 180, 223, 266, 299, 322, 375, 454, 477, 490, 543, 586, 629, 642, 655, 688, 741, 794, 837, 890, 923, 956, 999, 1052, 1095, 1138, 1161, 1204, 1227, 1270, 1313, 1388, 1431], 147)) (by omega) (by omega) (by rw [show (x.toInt - (0)).toNat = 29 by omega]; rfl) (by decide) (c29 (Int32.toInt_inj.mp (hq.trans (by decide +kernel))))
    | 30, _, hq => exact Ev.tableIn (off := 1313) (tgt := 1346) (by decide +kernel : decode LW_law.2.1 33 = .ok (.tableswitch 1444 0 32 #[147, 180, 223, 266, 299, 322, 375, 454, 477, 490, 543, 586, 629, 642, 655, 688, 741, 794, 837, 890, 923, 956, 999, 1052, 1095, 1138, 1161, 1204, 1227, 1270, 1313, 1388, 1431], 147)) (by omega) (by omega) (by rw [show (x.toInt - (0)).toNat = 30 by omega]; rfl) (by decide) (c30 (Int32.toInt_inj.mp (hq.trans (by decide +kernel))))
    | 31, _, hq => exact Ev.tableIn (off := 1388) (tgt := 1421) (by decide +kernel : decode LW_law.2.1 33 = .ok (.tableswitch 1444 0 32 #[147, 180, 223, 266, 299, 322, 375, 454, 477, 490, 543, 586, 629, 642, 655, 688, 741, 794, 837, 890, 923, 956, 999, 1052, 1095, 1138, 1161, 1204, 1227, 1270, 1313, 1388, 1431], 147)) (by omega) (by omega) (by rw [show (x.toInt - (0)).toNat = 31 by omega]; rfl) (by decide) (c31 (Int32.toInt_inj.mp (hq.trans (by decide +kernel))))
    | 32, _, hq => exact Ev.tableIn (off := 1431) (tgt := 1464) (by decide +kernel : decode LW_law.2.1 33 = .ok (.tableswitch 1444 0 32 #[147, 180, 223, 266, 299, 322, 375, 454, 477, 490, 543, 586, 629, 642, 655, 688, 741, 794, 837, 890, 923, 956, 999, 1052, 1095, 1138, 1161, 1204, 1227, 1270, 1313, 1388, 1431], 147)) (by omega) (by omega) (by rw [show (x.toInt - (0)).toNat = 32 by omega]; rfl) (by decide) (c32 (Int32.toInt_inj.mp (hq.trans (by decide +kernel))))
    | _ + 33, h, _ => exact absurd h (by omega)

set_option maxRecDepth 20000 in
theorem LW_law_180 {X : SX} {d : Nat} {st : List Value} {h : HH} {Q : Int32 → HH → Prop} {a0 a2 a3 : Value}   (kk : E X d LW_law 181 [a0, .ref 0, a2, a3] (.ref 0 :: st) h Q) : E X d LW_law 180 [a0, .ref 0, a2, a3] st h Q := Ev.aload_n (by decide +kernel : decode LW_law.2.1 180 = .ok (.aload_n 1, 1)) rfl rfl kk
set_option maxRecDepth 20000 in
theorem LW_law_181 {X : SX} {d : Nat} {st : List Value} {h : HH} {Q : Int32 → HH → Prop} {a1 a2 a3 : Value}   (kk : E X d LW_law 182 [.ref 1003, a1, a2, a3] (.ref 1003 :: st) h Q) : E X d LW_law 181 [.ref 1003, a1, a2, a3] st h Q := Ev.aload_n (by decide +kernel : decode LW_law.2.1 181 = .ok (.aload_n 0, 1)) rfl rfl kk
set_option maxRecDepth 20000 in
theorem LW_law_182 {X : SX} {d : Nat} {st : List Value} {h : HH} {Q : Int32 → HH → Prop} {a0 a1 a2 : Value} {x : Int32}  (kk : E X d LW_law 183 [a0, a1, a2, .int x] (.int x :: st) h Q) : E X d LW_law 182 [a0, a1, a2, .int x] st h Q := Ev.iload_n (by decide +kernel : decode LW_law.2.1 182 = .ok (.iload_n 3, 1)) rfl rfl kk
set_option maxRecDepth 20000 in
theorem LW_law_183 {X : SX} {d : Nat} {L : List Value} {st : List Value} {h : HH} {Q : Int32 → HH → Prop}   (kk : E X d LW_law 184 L (.int 1 :: st) h Q) : E X d LW_law 183 L st h Q := Ev.iconst (by decide +kernel : decode LW_law.2.1 183 = .ok (.iconst 1, 1)) (by decide) kk
set_option maxRecDepth 20000 in
theorem LW_law_184 {X : SX} {d : Nat} {L : List Value} {st : List Value} {h : HH} {Q : Int32 → HH → Prop} {x z : Int32}  (kk : E X d LW_law 185 L (.int (x + z) :: st) h Q) : E X d LW_law 184 L (.int z :: .int x :: st) h Q := Ev.iadd (by decide +kernel : decode LW_law.2.1 184 = .ok (.iadd, 1)) kk
set_option maxRecDepth 20000 in
theorem LW_law_185 {X : SX} {d : Nat} {L : List Value} {st : List Value} {h : HH} {Q : Int32 → HH → Prop} {i : Int32} (hi : vp_in i X.1) (kk : E X d LW_law 186 L (.int (X.2 i.toNatClampNeg) :: st) h Q) : E X d LW_law 185 L (.int i :: .ref 1003 :: st) h Q := Ev.tScript (by decide +kernel : decode LW_law.2.1 185 = .ok (.iaload, 1)) hi kk
set_option maxRecDepth 20000 in
theorem LW_law_186 {X : SX} {d : Nat} {st : List Value} {h : HH} {Q : Int32 → HH → Prop} {a1 a2 a3 : Value}   (kk : E X d LW_law 187 [.ref 1003, a1, a2, a3] (.ref 1003 :: st) h Q) : E X d LW_law 186 [.ref 1003, a1, a2, a3] st h Q := Ev.aload_n (by decide +kernel : decode LW_law.2.1 186 = .ok (.aload_n 0, 1)) rfl rfl kk
set_option maxRecDepth 20000 in
theorem LW_law_187 {X : SX} {d : Nat} {st : List Value} {h : HH} {Q : Int32 → HH → Prop} {a0 a1 a2 : Value} {x : Int32}  (kk : E X d LW_law 188 [a0, a1, a2, .int x] (.int x :: st) h Q) : E X d LW_law 187 [a0, a1, a2, .int x] st h Q := Ev.iload_n (by decide +kernel : decode LW_law.2.1 187 = .ok (.iload_n 3, 1)) rfl rfl kk
set_option maxRecDepth 20000 in
theorem LW_law_188 {X : SX} {d : Nat} {L : List Value} {st : List Value} {h : HH} {Q : Int32 → HH → Prop}   (kk : E X d LW_law 189 L (.int 2 :: st) h Q) : E X d LW_law 188 L st h Q := Ev.iconst (by decide +kernel : decode LW_law.2.1 188 = .ok (.iconst 2, 1)) (by decide) kk
set_option maxRecDepth 20000 in
theorem LW_law_189 {X : SX} {d : Nat} {L : List Value} {st : List Value} {h : HH} {Q : Int32 → HH → Prop} {x z : Int32}  (kk : E X d LW_law 190 L (.int (x + z) :: st) h Q) : E X d LW_law 189 L (.int z :: .int x :: st) h Q := Ev.iadd (by decide +kernel : decode LW_law.2.1 189 = .ok (.iadd, 1)) kk
set_option maxRecDepth 20000 in
theorem LW_law_190 {X : SX} {d : Nat} {L : List Value} {st : List Value} {h : HH} {Q : Int32 → HH → Prop} {i : Int32} (hi : vp_in i X.1) (kk : E X d LW_law 191 L (.int (X.2 i.toNatClampNeg) :: st) h Q) : E X d LW_law 190 L (.int i :: .ref 1003 :: st) h Q := Ev.tScript (by decide +kernel : decode LW_law.2.1 190 = .ok (.iaload, 1)) hi kk
set_option maxRecDepth 20000 in
theorem LW_law_191 {X : SX} {d : Nat} {L : List Value} {st : List Value} {h : HH} {Q : Int32 → HH → Prop} {b0 : Int32} {b1 : Int32}   (hc : (st.map (fun v => v.category)).sum ≤ 8) (kk : E X d FC_district 0 [.ref 0, .int b0, .int b1] [] h (fun x h' => E X (d + 1) LW_law 194 L (.int x :: st) h' Q)) : E X (d + 1) LW_law 191 L (.int b1 :: .int b0 :: .ref 0 :: st) h Q := E.callVi (n := 2) (ix := 13) (args := [.int b0, .int b1]) (by decide +kernel : decode LW_law.2.1 191 = .ok (.invokevirtual 13, 3)) FC_district_ok rfl rfl rfl wd_344 wd_345 wd_346 rfl FC_district_ds (Nat.le_of_ble_eq_true rfl) hc (by decide) kk
set_option maxRecDepth 20000 in
theorem LW_law_194 {X : SX} {d : Nat} {st : List Value} {h : HH} {Q : Int32 → HH → Prop} {a0 a1 a3 : Value}   (kk : E X d LW_law 195 [a0, a1, .ref 57, a3] (.ref 57 :: st) h Q) : E X d LW_law 194 [a0, a1, .ref 57, a3] st h Q := Ev.aload_n (by decide +kernel : decode LW_law.2.1 194 = .ok (.aload_n 2, 1)) rfl rfl kk
set_option maxRecDepth 20000 in
theorem LW_law_195 {X : SX} {d : Nat} {st : List Value} {h : HH} {Q : Int32 → HH → Prop} {a1 a2 a3 : Value}   (kk : E X d LW_law 196 [.ref 1003, a1, a2, a3] (.ref 1003 :: st) h Q) : E X d LW_law 195 [.ref 1003, a1, a2, a3] st h Q := Ev.aload_n (by decide +kernel : decode LW_law.2.1 195 = .ok (.aload_n 0, 1)) rfl rfl kk
set_option maxRecDepth 20000 in
theorem LW_law_196 {X : SX} {d : Nat} {st : List Value} {h : HH} {Q : Int32 → HH → Prop} {a0 a1 a2 : Value} {x : Int32}  (kk : E X d LW_law 197 [a0, a1, a2, .int x] (.int x :: st) h Q) : E X d LW_law 196 [a0, a1, a2, .int x] st h Q := Ev.iload_n (by decide +kernel : decode LW_law.2.1 196 = .ok (.iload_n 3, 1)) rfl rfl kk
set_option maxRecDepth 20000 in
theorem LW_law_197 {X : SX} {d : Nat} {L : List Value} {st : List Value} {h : HH} {Q : Int32 → HH → Prop}   (kk : E X d LW_law 198 L (.int 1 :: st) h Q) : E X d LW_law 197 L st h Q := Ev.iconst (by decide +kernel : decode LW_law.2.1 197 = .ok (.iconst 1, 1)) (by decide) kk
set_option maxRecDepth 20000 in
theorem LW_law_198 {X : SX} {d : Nat} {L : List Value} {st : List Value} {h : HH} {Q : Int32 → HH → Prop} {x z : Int32}  (kk : E X d LW_law 199 L (.int (x + z) :: st) h Q) : E X d LW_law 198 L (.int z :: .int x :: st) h Q := Ev.iadd (by decide +kernel : decode LW_law.2.1 198 = .ok (.iadd, 1)) kk
set_option maxRecDepth 20000 in
theorem LW_law_199 {X : SX} {d : Nat} {L : List Value} {st : List Value} {h : HH} {Q : Int32 → HH → Prop} {i : Int32} (hi : vp_in i X.1) (kk : E X d LW_law 200 L (.int (X.2 i.toNatClampNeg) :: st) h Q) : E X d LW_law 199 L (.int i :: .ref 1003 :: st) h Q := Ev.tScript (by decide +kernel : decode LW_law.2.1 199 = .ok (.iaload, 1)) hi kk
set_option maxRecDepth 20000 in
theorem LW_law_200 {X : SX} {d : Nat} {st : List Value} {h : HH} {Q : Int32 → HH → Prop} {a1 a2 a3 : Value}   (kk : E X d LW_law 201 [.ref 1003, a1, a2, a3] (.ref 1003 :: st) h Q) : E X d LW_law 200 [.ref 1003, a1, a2, a3] st h Q := Ev.aload_n (by decide +kernel : decode LW_law.2.1 200 = .ok (.aload_n 0, 1)) rfl rfl kk
set_option maxRecDepth 20000 in
theorem LW_law_201 {X : SX} {d : Nat} {st : List Value} {h : HH} {Q : Int32 → HH → Prop} {a0 a1 a2 : Value} {x : Int32}  (kk : E X d LW_law 202 [a0, a1, a2, .int x] (.int x :: st) h Q) : E X d LW_law 201 [a0, a1, a2, .int x] st h Q := Ev.iload_n (by decide +kernel : decode LW_law.2.1 201 = .ok (.iload_n 3, 1)) rfl rfl kk
set_option maxRecDepth 20000 in
theorem LW_law_202 {X : SX} {d : Nat} {L : List Value} {st : List Value} {h : HH} {Q : Int32 → HH → Prop}   (kk : E X d LW_law 203 L (.int 2 :: st) h Q) : E X d LW_law 202 L st h Q := Ev.iconst (by decide +kernel : decode LW_law.2.1 202 = .ok (.iconst 2, 1)) (by decide) kk
set_option maxRecDepth 20000 in
theorem LW_law_203 {X : SX} {d : Nat} {L : List Value} {st : List Value} {h : HH} {Q : Int32 → HH → Prop} {x z : Int32}  (kk : E X d LW_law 204 L (.int (x + z) :: st) h Q) : E X d LW_law 203 L (.int z :: .int x :: st) h Q := Ev.iadd (by decide +kernel : decode LW_law.2.1 203 = .ok (.iadd, 1)) kk
set_option maxRecDepth 20000 in
theorem LW_law_204 {X : SX} {d : Nat} {L : List Value} {st : List Value} {h : HH} {Q : Int32 → HH → Prop} {i : Int32} (hi : vp_in i X.1) (kk : E X d LW_law 205 L (.int (X.2 i.toNatClampNeg) :: st) h Q) : E X d LW_law 204 L (.int i :: .ref 1003 :: st) h Q := Ev.tScript (by decide +kernel : decode LW_law.2.1 204 = .ok (.iaload, 1)) hi kk
set_option maxRecDepth 20000 in
theorem LW_law_205 {X : SX} {d : Nat} {L : List Value} {st : List Value} {h : HH} {Q : Int32 → HH → Prop} {b0 : Int32} {b1 : Int32}   (hc : (st.map (fun v => v.category)).sum ≤ 8) (kk : E X d FM_district 0 [.ref 57, .int b0, .int b1, U0, U0] [] h (fun x h' => E X (d + 1) LW_law 208 L (.int x :: st) h' Q)) : E X (d + 1) LW_law 205 L (.int b1 :: .int b0 :: .ref 57 :: st) h Q := E.callVi (n := 2) (ix := 17) (args := [.int b0, .int b1]) (by decide +kernel : decode LW_law.2.1 205 = .ok (.invokevirtual 17, 3)) FM_district_ok rfl rfl rfl wd_1040 wd_1041 wd_1042 rfl FM_district_ds (Nat.le_of_ble_eq_true rfl) hc (by decide) kk
set_option maxRecDepth 20000 in
theorem LW_law_208 {X : SX} {d : Nat} {L : List Value} {st : List Value} {h : HH} {Q : Int32 → HH → Prop} {x z : Int32}  (kt : x = z → E X d LW_law 1477 L st h Q) (kf : ¬ x = z → E X d LW_law 211 L st h Q) : E X d LW_law 208 L (.int z :: .int x :: st) h Q := Ev.icmp_eq (tgt := 1477) (by decide +kernel : decode LW_law.2.1 208 = .ok (.if_icmp .eq 1269, 3)) (by decide) kt kf
set_option maxRecDepth 20000 in
theorem LW_law_211 {X : SX} {d : Nat} {L : List Value} {st : List Value} {h : HH} {Q : Int32 → HH → Prop}   (kk : E X d LW_law 212 L (.int 0 :: st) h Q) : E X d LW_law 211 L st h Q := Ev.iconst (by decide +kernel : decode LW_law.2.1 211 = .ok (.iconst 0, 1)) (by decide) kk
set_option maxRecDepth 20000 in
theorem LW_law_212 {X : SX} {d : Nat} {L : List Value} {h : HH} {Q : Int32 → HH → Prop} {x : Int32} (hb : narrow .boolean (.int x) = .int x) (hq : Q x h)  : E X d LW_law 212 L [.int x] h Q := Ev.ireturn (by decide +kernel : decode LW_law.2.1 212 = .ok (.ireturn, 1)) rfl hb ⟨rfl, hq⟩
set_option maxRecDepth 20000 in
theorem LW_law_213 {X : SX} {d : Nat} {st : List Value} {h : HH} {Q : Int32 → HH → Prop} {a0 a2 a3 : Value}   (kk : E X d LW_law 214 [a0, .ref 0, a2, a3] (.ref 0 :: st) h Q) : E X d LW_law 213 [a0, .ref 0, a2, a3] st h Q := Ev.aload_n (by decide +kernel : decode LW_law.2.1 213 = .ok (.aload_n 1, 1)) rfl rfl kk
set_option maxRecDepth 20000 in
theorem LW_law_214 {X : SX} {d : Nat} {st : List Value} {h : HH} {Q : Int32 → HH → Prop} {a1 a2 a3 : Value}   (kk : E X d LW_law 215 [.ref 1003, a1, a2, a3] (.ref 1003 :: st) h Q) : E X d LW_law 214 [.ref 1003, a1, a2, a3] st h Q := Ev.aload_n (by decide +kernel : decode LW_law.2.1 214 = .ok (.aload_n 0, 1)) rfl rfl kk
set_option maxRecDepth 20000 in
theorem LW_law_215 {X : SX} {d : Nat} {st : List Value} {h : HH} {Q : Int32 → HH → Prop} {a0 a1 a2 : Value} {x : Int32}  (kk : E X d LW_law 216 [a0, a1, a2, .int x] (.int x :: st) h Q) : E X d LW_law 215 [a0, a1, a2, .int x] st h Q := Ev.iload_n (by decide +kernel : decode LW_law.2.1 215 = .ok (.iload_n 3, 1)) rfl rfl kk
set_option maxRecDepth 20000 in
theorem LW_law_216 {X : SX} {d : Nat} {L : List Value} {st : List Value} {h : HH} {Q : Int32 → HH → Prop}   (kk : E X d LW_law 217 L (.int 1 :: st) h Q) : E X d LW_law 216 L st h Q := Ev.iconst (by decide +kernel : decode LW_law.2.1 216 = .ok (.iconst 1, 1)) (by decide) kk
set_option maxRecDepth 20000 in
theorem LW_law_217 {X : SX} {d : Nat} {L : List Value} {st : List Value} {h : HH} {Q : Int32 → HH → Prop} {x z : Int32}  (kk : E X d LW_law 218 L (.int (x + z) :: st) h Q) : E X d LW_law 217 L (.int z :: .int x :: st) h Q := Ev.iadd (by decide +kernel : decode LW_law.2.1 217 = .ok (.iadd, 1)) kk
set_option maxRecDepth 20000 in
theorem LW_law_218 {X : SX} {d : Nat} {L : List Value} {st : List Value} {h : HH} {Q : Int32 → HH → Prop} {i : Int32} (hi : vp_in i X.1) (kk : E X d LW_law 219 L (.int (X.2 i.toNatClampNeg) :: st) h Q) : E X d LW_law 218 L (.int i :: .ref 1003 :: st) h Q := Ev.tScript (by decide +kernel : decode LW_law.2.1 218 = .ok (.iaload, 1)) hi kk
set_option maxRecDepth 20000 in
theorem LW_law_219 {X : SX} {d : Nat} {st : List Value} {h : HH} {Q : Int32 → HH → Prop} {a1 a2 a3 : Value}   (kk : E X d LW_law 220 [.ref 1003, a1, a2, a3] (.ref 1003 :: st) h Q) : E X d LW_law 219 [.ref 1003, a1, a2, a3] st h Q := Ev.aload_n (by decide +kernel : decode LW_law.2.1 219 = .ok (.aload_n 0, 1)) rfl rfl kk
set_option maxRecDepth 20000 in
theorem LW_law_220 {X : SX} {d : Nat} {st : List Value} {h : HH} {Q : Int32 → HH → Prop} {a0 a1 a2 : Value} {x : Int32}  (kk : E X d LW_law 221 [a0, a1, a2, .int x] (.int x :: st) h Q) : E X d LW_law 220 [a0, a1, a2, .int x] st h Q := Ev.iload_n (by decide +kernel : decode LW_law.2.1 220 = .ok (.iload_n 3, 1)) rfl rfl kk
set_option maxRecDepth 20000 in
theorem LW_law_221 {X : SX} {d : Nat} {L : List Value} {st : List Value} {h : HH} {Q : Int32 → HH → Prop}   (kk : E X d LW_law 222 L (.int 2 :: st) h Q) : E X d LW_law 221 L st h Q := Ev.iconst (by decide +kernel : decode LW_law.2.1 221 = .ok (.iconst 2, 1)) (by decide) kk
set_option maxRecDepth 20000 in
theorem LW_law_222 {X : SX} {d : Nat} {L : List Value} {st : List Value} {h : HH} {Q : Int32 → HH → Prop} {x z : Int32}  (kk : E X d LW_law 223 L (.int (x + z) :: st) h Q) : E X d LW_law 222 L (.int z :: .int x :: st) h Q := Ev.iadd (by decide +kernel : decode LW_law.2.1 222 = .ok (.iadd, 1)) kk
set_option maxRecDepth 20000 in
theorem LW_law_223 {X : SX} {d : Nat} {L : List Value} {st : List Value} {h : HH} {Q : Int32 → HH → Prop} {i : Int32} (hi : vp_in i X.1) (kk : E X d LW_law 224 L (.int (X.2 i.toNatClampNeg) :: st) h Q) : E X d LW_law 223 L (.int i :: .ref 1003 :: st) h Q := Ev.tScript (by decide +kernel : decode LW_law.2.1 223 = .ok (.iaload, 1)) hi kk
set_option maxRecDepth 20000 in
theorem LW_law_224 {X : SX} {d : Nat} {st : List Value} {h : HH} {Q : Int32 → HH → Prop} {a1 a2 a3 : Value}   (kk : E X d LW_law 225 [.ref 1003, a1, a2, a3] (.ref 1003 :: st) h Q) : E X d LW_law 224 [.ref 1003, a1, a2, a3] st h Q := Ev.aload_n (by decide +kernel : decode LW_law.2.1 224 = .ok (.aload_n 0, 1)) rfl rfl kk
set_option maxRecDepth 20000 in
theorem LW_law_225 {X : SX} {d : Nat} {st : List Value} {h : HH} {Q : Int32 → HH → Prop} {a0 a1 a2 : Value} {x : Int32}  (kk : E X d LW_law 226 [a0, a1, a2, .int x] (.int x :: st) h Q) : E X d LW_law 225 [a0, a1, a2, .int x] st h Q := Ev.iload_n (by decide +kernel : decode LW_law.2.1 225 = .ok (.iload_n 3, 1)) rfl rfl kk
set_option maxRecDepth 20000 in
theorem LW_law_226 {X : SX} {d : Nat} {L : List Value} {st : List Value} {h : HH} {Q : Int32 → HH → Prop}   (kk : E X d LW_law 227 L (.int 3 :: st) h Q) : E X d LW_law 226 L st h Q := Ev.iconst (by decide +kernel : decode LW_law.2.1 226 = .ok (.iconst 3, 1)) (by decide) kk
set_option maxRecDepth 20000 in
theorem LW_law_227 {X : SX} {d : Nat} {L : List Value} {st : List Value} {h : HH} {Q : Int32 → HH → Prop} {x z : Int32}  (kk : E X d LW_law 228 L (.int (x + z) :: st) h Q) : E X d LW_law 227 L (.int z :: .int x :: st) h Q := Ev.iadd (by decide +kernel : decode LW_law.2.1 227 = .ok (.iadd, 1)) kk
set_option maxRecDepth 20000 in
theorem LW_law_228 {X : SX} {d : Nat} {L : List Value} {st : List Value} {h : HH} {Q : Int32 → HH → Prop} {i : Int32} (hi : vp_in i X.1) (kk : E X d LW_law 229 L (.int (X.2 i.toNatClampNeg) :: st) h Q) : E X d LW_law 228 L (.int i :: .ref 1003 :: st) h Q := Ev.tScript (by decide +kernel : decode LW_law.2.1 228 = .ok (.iaload, 1)) hi kk
set_option maxRecDepth 20000 in
theorem LW_law_229 {X : SX} {d : Nat} {L : List Value} {st : List Value} {h : HH} {Q : Int32 → HH → Prop} {b0 : Int32} {b1 : Int32} {b2 : Int32}   (hc : (st.map (fun v => v.category)).sum ≤ 8) (kk : E X d FC_people 0 [.ref 0, .int b0, .int b1, .int b2] [] h (fun x h' => E X (d + 1) LW_law 232 L (.int x :: st) h' Q)) : E X (d + 1) LW_law 229 L (.int b2 :: .int b1 :: .int b0 :: .ref 0 :: st) h Q := E.callVi (n := 3) (ix := 18) (args := [.int b0, .int b1, .int b2]) (by decide +kernel : decode LW_law.2.1 229 = .ok (.invokevirtual 18, 3)) FC_people_ok rfl rfl rfl wd_372 wd_373 wd_374 rfl FC_people_ds (Nat.le_of_ble_eq_true rfl) hc (by decide) kk
set_option maxRecDepth 20000 in
theorem LW_law_232 {X : SX} {d : Nat} {st : List Value} {h : HH} {Q : Int32 → HH → Prop} {a0 a1 a3 : Value}   (kk : E X d LW_law 233 [a0, a1, .ref 57, a3] (.ref 57 :: st) h Q) : E X d LW_law 232 [a0, a1, .ref 57, a3] st h Q := Ev.aload_n (by decide +kernel : decode LW_law.2.1 232 = .ok (.aload_n 2, 1)) rfl rfl kk
set_option maxRecDepth 20000 in
theorem LW_law_233 {X : SX} {d : Nat} {st : List Value} {h : HH} {Q : Int32 → HH → Prop} {a1 a2 a3 : Value}   (kk : E X d LW_law 234 [.ref 1003, a1, a2, a3] (.ref 1003 :: st) h Q) : E X d LW_law 233 [.ref 1003, a1, a2, a3] st h Q := Ev.aload_n (by decide +kernel : decode LW_law.2.1 233 = .ok (.aload_n 0, 1)) rfl rfl kk
set_option maxRecDepth 20000 in
theorem LW_law_234 {X : SX} {d : Nat} {st : List Value} {h : HH} {Q : Int32 → HH → Prop} {a0 a1 a2 : Value} {x : Int32}  (kk : E X d LW_law 235 [a0, a1, a2, .int x] (.int x :: st) h Q) : E X d LW_law 234 [a0, a1, a2, .int x] st h Q := Ev.iload_n (by decide +kernel : decode LW_law.2.1 234 = .ok (.iload_n 3, 1)) rfl rfl kk
set_option maxRecDepth 20000 in
theorem LW_law_235 {X : SX} {d : Nat} {L : List Value} {st : List Value} {h : HH} {Q : Int32 → HH → Prop}   (kk : E X d LW_law 236 L (.int 1 :: st) h Q) : E X d LW_law 235 L st h Q := Ev.iconst (by decide +kernel : decode LW_law.2.1 235 = .ok (.iconst 1, 1)) (by decide) kk
set_option maxRecDepth 20000 in
theorem LW_law_236 {X : SX} {d : Nat} {L : List Value} {st : List Value} {h : HH} {Q : Int32 → HH → Prop} {x z : Int32}  (kk : E X d LW_law 237 L (.int (x + z) :: st) h Q) : E X d LW_law 236 L (.int z :: .int x :: st) h Q := Ev.iadd (by decide +kernel : decode LW_law.2.1 236 = .ok (.iadd, 1)) kk
set_option maxRecDepth 20000 in
theorem LW_law_237 {X : SX} {d : Nat} {L : List Value} {st : List Value} {h : HH} {Q : Int32 → HH → Prop} {i : Int32} (hi : vp_in i X.1) (kk : E X d LW_law 238 L (.int (X.2 i.toNatClampNeg) :: st) h Q) : E X d LW_law 237 L (.int i :: .ref 1003 :: st) h Q := Ev.tScript (by decide +kernel : decode LW_law.2.1 237 = .ok (.iaload, 1)) hi kk
set_option maxRecDepth 20000 in
theorem LW_law_238 {X : SX} {d : Nat} {st : List Value} {h : HH} {Q : Int32 → HH → Prop} {a1 a2 a3 : Value}   (kk : E X d LW_law 239 [.ref 1003, a1, a2, a3] (.ref 1003 :: st) h Q) : E X d LW_law 238 [.ref 1003, a1, a2, a3] st h Q := Ev.aload_n (by decide +kernel : decode LW_law.2.1 238 = .ok (.aload_n 0, 1)) rfl rfl kk
set_option maxRecDepth 20000 in
theorem LW_law_239 {X : SX} {d : Nat} {st : List Value} {h : HH} {Q : Int32 → HH → Prop} {a0 a1 a2 : Value} {x : Int32}  (kk : E X d LW_law 240 [a0, a1, a2, .int x] (.int x :: st) h Q) : E X d LW_law 239 [a0, a1, a2, .int x] st h Q := Ev.iload_n (by decide +kernel : decode LW_law.2.1 239 = .ok (.iload_n 3, 1)) rfl rfl kk
set_option maxRecDepth 20000 in
theorem LW_law_240 {X : SX} {d : Nat} {L : List Value} {st : List Value} {h : HH} {Q : Int32 → HH → Prop}   (kk : E X d LW_law 241 L (.int 2 :: st) h Q) : E X d LW_law 240 L st h Q := Ev.iconst (by decide +kernel : decode LW_law.2.1 240 = .ok (.iconst 2, 1)) (by decide) kk
set_option maxRecDepth 20000 in
theorem LW_law_241 {X : SX} {d : Nat} {L : List Value} {st : List Value} {h : HH} {Q : Int32 → HH → Prop} {x z : Int32}  (kk : E X d LW_law 242 L (.int (x + z) :: st) h Q) : E X d LW_law 241 L (.int z :: .int x :: st) h Q := Ev.iadd (by decide +kernel : decode LW_law.2.1 241 = .ok (.iadd, 1)) kk
set_option maxRecDepth 20000 in
theorem LW_law_242 {X : SX} {d : Nat} {L : List Value} {st : List Value} {h : HH} {Q : Int32 → HH → Prop} {i : Int32} (hi : vp_in i X.1) (kk : E X d LW_law 243 L (.int (X.2 i.toNatClampNeg) :: st) h Q) : E X d LW_law 242 L (.int i :: .ref 1003 :: st) h Q := Ev.tScript (by decide +kernel : decode LW_law.2.1 242 = .ok (.iaload, 1)) hi kk
set_option maxRecDepth 20000 in
theorem LW_law_243 {X : SX} {d : Nat} {st : List Value} {h : HH} {Q : Int32 → HH → Prop} {a1 a2 a3 : Value}   (kk : E X d LW_law 244 [.ref 1003, a1, a2, a3] (.ref 1003 :: st) h Q) : E X d LW_law 243 [.ref 1003, a1, a2, a3] st h Q := Ev.aload_n (by decide +kernel : decode LW_law.2.1 243 = .ok (.aload_n 0, 1)) rfl rfl kk
set_option maxRecDepth 20000 in
theorem LW_law_244 {X : SX} {d : Nat} {st : List Value} {h : HH} {Q : Int32 → HH → Prop} {a0 a1 a2 : Value} {x : Int32}  (kk : E X d LW_law 245 [a0, a1, a2, .int x] (.int x :: st) h Q) : E X d LW_law 244 [a0, a1, a2, .int x] st h Q := Ev.iload_n (by decide +kernel : decode LW_law.2.1 244 = .ok (.iload_n 3, 1)) rfl rfl kk
set_option maxRecDepth 20000 in
theorem LW_law_245 {X : SX} {d : Nat} {L : List Value} {st : List Value} {h : HH} {Q : Int32 → HH → Prop}   (kk : E X d LW_law 246 L (.int 3 :: st) h Q) : E X d LW_law 245 L st h Q := Ev.iconst (by decide +kernel : decode LW_law.2.1 245 = .ok (.iconst 3, 1)) (by decide) kk
set_option maxRecDepth 20000 in
theorem LW_law_246 {X : SX} {d : Nat} {L : List Value} {st : List Value} {h : HH} {Q : Int32 → HH → Prop} {x z : Int32}  (kk : E X d LW_law 247 L (.int (x + z) :: st) h Q) : E X d LW_law 246 L (.int z :: .int x :: st) h Q := Ev.iadd (by decide +kernel : decode LW_law.2.1 246 = .ok (.iadd, 1)) kk
set_option maxRecDepth 20000 in
theorem LW_law_247 {X : SX} {d : Nat} {L : List Value} {st : List Value} {h : HH} {Q : Int32 → HH → Prop} {i : Int32} (hi : vp_in i X.1) (kk : E X d LW_law 248 L (.int (X.2 i.toNatClampNeg) :: st) h Q) : E X d LW_law 247 L (.int i :: .ref 1003 :: st) h Q := Ev.tScript (by decide +kernel : decode LW_law.2.1 247 = .ok (.iaload, 1)) hi kk
set_option maxRecDepth 20000 in
theorem LW_law_248 {X : SX} {d : Nat} {L : List Value} {st : List Value} {h : HH} {Q : Int32 → HH → Prop} {b0 : Int32} {b1 : Int32} {b2 : Int32}   (hc : (st.map (fun v => v.category)).sum ≤ 8) (kk : E X d FM_people 0 [.ref 57, .int b0, .int b1, .int b2, U0] [] h (fun x h' => E X (d + 1) LW_law 251 L (.int x :: st) h' Q)) : E X (d + 1) LW_law 248 L (.int b2 :: .int b1 :: .int b0 :: .ref 57 :: st) h Q := E.callVi (n := 3) (ix := 22) (args := [.int b0, .int b1, .int b2]) (by decide +kernel : decode LW_law.2.1 248 = .ok (.invokevirtual 22, 3)) FM_people_ok rfl rfl rfl wd_1056 wd_1057 wd_1058 rfl FM_people_ds (Nat.le_of_ble_eq_true rfl) hc (by decide) kk
set_option maxRecDepth 20000 in
theorem LW_law_251 {X : SX} {d : Nat} {L : List Value} {st : List Value} {h : HH} {Q : Int32 → HH → Prop} {x z : Int32}  (kt : x = z → E X d LW_law 1477 L st h Q) (kf : ¬ x = z → E X d LW_law 254 L st h Q) : E X d LW_law 251 L (.int z :: .int x :: st) h Q := Ev.icmp_eq (tgt := 1477) (by decide +kernel : decode LW_law.2.1 251 = .ok (.if_icmp .eq 1226, 3)) (by decide) kt kf
set_option maxRecDepth 20000 in
theorem LW_law_254 {X : SX} {d : Nat} {L : List Value} {st : List Value} {h : HH} {Q : Int32 → HH → Prop}   (kk : E X d LW_law 255 L (.int 0 :: st) h Q) : E X d LW_law 254 L st h Q := Ev.iconst (by decide +kernel : decode LW_law.2.1 254 = .ok (.iconst 0, 1)) (by decide) kk
set_option maxRecDepth 20000 in
theorem LW_law_255 {X : SX} {d : Nat} {L : List Value} {h : HH} {Q : Int32 → HH → Prop} {x : Int32} (hb : narrow .boolean (.int x) = .int x) (hq : Q x h)  : E X d LW_law 255 L [.int x] h Q := Ev.ireturn (by decide +kernel : decode LW_law.2.1 255 = .ok (.ireturn, 1)) rfl hb ⟨rfl, hq⟩
set_option maxRecDepth 20000 in
theorem LW_law_256 {X : SX} {d : Nat} {st : List Value} {h : HH} {Q : Int32 → HH → Prop} {a0 a2 a3 : Value}   (kk : E X d LW_law 257 [a0, .ref 0, a2, a3] (.ref 0 :: st) h Q) : E X d LW_law 256 [a0, .ref 0, a2, a3] st h Q := Ev.aload_n (by decide +kernel : decode LW_law.2.1 256 = .ok (.aload_n 1, 1)) rfl rfl kk
set_option maxRecDepth 20000 in
theorem LW_law_257 {X : SX} {d : Nat} {st : List Value} {h : HH} {Q : Int32 → HH → Prop} {a1 a2 a3 : Value}   (kk : E X d LW_law 258 [.ref 1003, a1, a2, a3] (.ref 1003 :: st) h Q) : E X d LW_law 257 [.ref 1003, a1, a2, a3] st h Q := Ev.aload_n (by decide +kernel : decode LW_law.2.1 257 = .ok (.aload_n 0, 1)) rfl rfl kk
set_option maxRecDepth 20000 in
theorem LW_law_258 {X : SX} {d : Nat} {st : List Value} {h : HH} {Q : Int32 → HH → Prop} {a0 a1 a2 : Value} {x : Int32}  (kk : E X d LW_law 259 [a0, a1, a2, .int x] (.int x :: st) h Q) : E X d LW_law 258 [a0, a1, a2, .int x] st h Q := Ev.iload_n (by decide +kernel : decode LW_law.2.1 258 = .ok (.iload_n 3, 1)) rfl rfl kk
set_option maxRecDepth 20000 in
theorem LW_law_259 {X : SX} {d : Nat} {L : List Value} {st : List Value} {h : HH} {Q : Int32 → HH → Prop}   (kk : E X d LW_law 260 L (.int 1 :: st) h Q) : E X d LW_law 259 L st h Q := Ev.iconst (by decide +kernel : decode LW_law.2.1 259 = .ok (.iconst 1, 1)) (by decide) kk
set_option maxRecDepth 20000 in
theorem LW_law_260 {X : SX} {d : Nat} {L : List Value} {st : List Value} {h : HH} {Q : Int32 → HH → Prop} {x z : Int32}  (kk : E X d LW_law 261 L (.int (x + z) :: st) h Q) : E X d LW_law 260 L (.int z :: .int x :: st) h Q := Ev.iadd (by decide +kernel : decode LW_law.2.1 260 = .ok (.iadd, 1)) kk
set_option maxRecDepth 20000 in
theorem LW_law_261 {X : SX} {d : Nat} {L : List Value} {st : List Value} {h : HH} {Q : Int32 → HH → Prop} {i : Int32} (hi : vp_in i X.1) (kk : E X d LW_law 262 L (.int (X.2 i.toNatClampNeg) :: st) h Q) : E X d LW_law 261 L (.int i :: .ref 1003 :: st) h Q := Ev.tScript (by decide +kernel : decode LW_law.2.1 261 = .ok (.iaload, 1)) hi kk
set_option maxRecDepth 20000 in
theorem LW_law_262 {X : SX} {d : Nat} {st : List Value} {h : HH} {Q : Int32 → HH → Prop} {a1 a2 a3 : Value}   (kk : E X d LW_law 263 [.ref 1003, a1, a2, a3] (.ref 1003 :: st) h Q) : E X d LW_law 262 [.ref 1003, a1, a2, a3] st h Q := Ev.aload_n (by decide +kernel : decode LW_law.2.1 262 = .ok (.aload_n 0, 1)) rfl rfl kk
set_option maxRecDepth 20000 in
theorem LW_law_263 {X : SX} {d : Nat} {st : List Value} {h : HH} {Q : Int32 → HH → Prop} {a0 a1 a2 : Value} {x : Int32}  (kk : E X d LW_law 264 [a0, a1, a2, .int x] (.int x :: st) h Q) : E X d LW_law 263 [a0, a1, a2, .int x] st h Q := Ev.iload_n (by decide +kernel : decode LW_law.2.1 263 = .ok (.iload_n 3, 1)) rfl rfl kk
set_option maxRecDepth 20000 in
theorem LW_law_264 {X : SX} {d : Nat} {L : List Value} {st : List Value} {h : HH} {Q : Int32 → HH → Prop}   (kk : E X d LW_law 265 L (.int 2 :: st) h Q) : E X d LW_law 264 L st h Q := Ev.iconst (by decide +kernel : decode LW_law.2.1 264 = .ok (.iconst 2, 1)) (by decide) kk
set_option maxRecDepth 20000 in
theorem LW_law_265 {X : SX} {d : Nat} {L : List Value} {st : List Value} {h : HH} {Q : Int32 → HH → Prop} {x z : Int32}  (kk : E X d LW_law 266 L (.int (x + z) :: st) h Q) : E X d LW_law 265 L (.int z :: .int x :: st) h Q := Ev.iadd (by decide +kernel : decode LW_law.2.1 265 = .ok (.iadd, 1)) kk
set_option maxRecDepth 20000 in
theorem LW_law_266 {X : SX} {d : Nat} {L : List Value} {st : List Value} {h : HH} {Q : Int32 → HH → Prop} {i : Int32} (hi : vp_in i X.1) (kk : E X d LW_law 267 L (.int (X.2 i.toNatClampNeg) :: st) h Q) : E X d LW_law 266 L (.int i :: .ref 1003 :: st) h Q := Ev.tScript (by decide +kernel : decode LW_law.2.1 266 = .ok (.iaload, 1)) hi kk
set_option maxRecDepth 20000 in
theorem LW_law_267 {X : SX} {d : Nat} {st : List Value} {h : HH} {Q : Int32 → HH → Prop} {a1 a2 a3 : Value}   (kk : E X d LW_law 268 [.ref 1003, a1, a2, a3] (.ref 1003 :: st) h Q) : E X d LW_law 267 [.ref 1003, a1, a2, a3] st h Q := Ev.aload_n (by decide +kernel : decode LW_law.2.1 267 = .ok (.aload_n 0, 1)) rfl rfl kk
set_option maxRecDepth 20000 in
theorem LW_law_268 {X : SX} {d : Nat} {st : List Value} {h : HH} {Q : Int32 → HH → Prop} {a0 a1 a2 : Value} {x : Int32}  (kk : E X d LW_law 269 [a0, a1, a2, .int x] (.int x :: st) h Q) : E X d LW_law 268 [a0, a1, a2, .int x] st h Q := Ev.iload_n (by decide +kernel : decode LW_law.2.1 268 = .ok (.iload_n 3, 1)) rfl rfl kk
set_option maxRecDepth 20000 in
theorem LW_law_269 {X : SX} {d : Nat} {L : List Value} {st : List Value} {h : HH} {Q : Int32 → HH → Prop}   (kk : E X d LW_law 270 L (.int 3 :: st) h Q) : E X d LW_law 269 L st h Q := Ev.iconst (by decide +kernel : decode LW_law.2.1 269 = .ok (.iconst 3, 1)) (by decide) kk
set_option maxRecDepth 20000 in
theorem LW_law_270 {X : SX} {d : Nat} {L : List Value} {st : List Value} {h : HH} {Q : Int32 → HH → Prop} {x z : Int32}  (kk : E X d LW_law 271 L (.int (x + z) :: st) h Q) : E X d LW_law 270 L (.int z :: .int x :: st) h Q := Ev.iadd (by decide +kernel : decode LW_law.2.1 270 = .ok (.iadd, 1)) kk
set_option maxRecDepth 20000 in
theorem LW_law_271 {X : SX} {d : Nat} {L : List Value} {st : List Value} {h : HH} {Q : Int32 → HH → Prop} {i : Int32} (hi : vp_in i X.1) (kk : E X d LW_law 272 L (.int (X.2 i.toNatClampNeg) :: st) h Q) : E X d LW_law 271 L (.int i :: .ref 1003 :: st) h Q := Ev.tScript (by decide +kernel : decode LW_law.2.1 271 = .ok (.iaload, 1)) hi kk
set_option maxRecDepth 20000 in
theorem LW_law_272 {X : SX} {d : Nat} {L : List Value} {st : List Value} {h : HH} {Q : Int32 → HH → Prop} {b0 : Int32} {b1 : Int32} {b2 : Int32}   (hc : (st.map (fun v => v.category)).sum ≤ 8) (kk : E X d FC_coins 0 [.ref 0, .int b0, .int b1, .int b2] [] h (fun x h' => E X (d + 1) LW_law 275 L (.int x :: st) h' Q)) : E X (d + 1) LW_law 272 L (.int b2 :: .int b1 :: .int b0 :: .ref 0 :: st) h Q := E.callVi (n := 3) (ix := 23) (args := [.int b0, .int b1, .int b2]) (by decide +kernel : decode LW_law.2.1 272 = .ok (.invokevirtual 23, 3)) FC_coins_ok rfl rfl rfl wd_384 wd_385 wd_386 rfl FC_coins_ds (Nat.le_of_ble_eq_true rfl) hc (by decide) kk
set_option maxRecDepth 20000 in
theorem LW_law_275 {X : SX} {d : Nat} {st : List Value} {h : HH} {Q : Int32 → HH → Prop} {a0 a1 a3 : Value}   (kk : E X d LW_law 276 [a0, a1, .ref 57, a3] (.ref 57 :: st) h Q) : E X d LW_law 275 [a0, a1, .ref 57, a3] st h Q := Ev.aload_n (by decide +kernel : decode LW_law.2.1 275 = .ok (.aload_n 2, 1)) rfl rfl kk
set_option maxRecDepth 20000 in
theorem LW_law_276 {X : SX} {d : Nat} {st : List Value} {h : HH} {Q : Int32 → HH → Prop} {a1 a2 a3 : Value}   (kk : E X d LW_law 277 [.ref 1003, a1, a2, a3] (.ref 1003 :: st) h Q) : E X d LW_law 276 [.ref 1003, a1, a2, a3] st h Q := Ev.aload_n (by decide +kernel : decode LW_law.2.1 276 = .ok (.aload_n 0, 1)) rfl rfl kk
set_option maxRecDepth 20000 in
theorem LW_law_277 {X : SX} {d : Nat} {st : List Value} {h : HH} {Q : Int32 → HH → Prop} {a0 a1 a2 : Value} {x : Int32}  (kk : E X d LW_law 278 [a0, a1, a2, .int x] (.int x :: st) h Q) : E X d LW_law 277 [a0, a1, a2, .int x] st h Q := Ev.iload_n (by decide +kernel : decode LW_law.2.1 277 = .ok (.iload_n 3, 1)) rfl rfl kk
set_option maxRecDepth 20000 in
theorem LW_law_278 {X : SX} {d : Nat} {L : List Value} {st : List Value} {h : HH} {Q : Int32 → HH → Prop}   (kk : E X d LW_law 279 L (.int 1 :: st) h Q) : E X d LW_law 278 L st h Q := Ev.iconst (by decide +kernel : decode LW_law.2.1 278 = .ok (.iconst 1, 1)) (by decide) kk
set_option maxRecDepth 20000 in
theorem LW_law_279 {X : SX} {d : Nat} {L : List Value} {st : List Value} {h : HH} {Q : Int32 → HH → Prop} {x z : Int32}  (kk : E X d LW_law 280 L (.int (x + z) :: st) h Q) : E X d LW_law 279 L (.int z :: .int x :: st) h Q := Ev.iadd (by decide +kernel : decode LW_law.2.1 279 = .ok (.iadd, 1)) kk
set_option maxRecDepth 20000 in
theorem LW_law_280 {X : SX} {d : Nat} {L : List Value} {st : List Value} {h : HH} {Q : Int32 → HH → Prop} {i : Int32} (hi : vp_in i X.1) (kk : E X d LW_law 281 L (.int (X.2 i.toNatClampNeg) :: st) h Q) : E X d LW_law 280 L (.int i :: .ref 1003 :: st) h Q := Ev.tScript (by decide +kernel : decode LW_law.2.1 280 = .ok (.iaload, 1)) hi kk
set_option maxRecDepth 20000 in
theorem LW_law_281 {X : SX} {d : Nat} {st : List Value} {h : HH} {Q : Int32 → HH → Prop} {a1 a2 a3 : Value}   (kk : E X d LW_law 282 [.ref 1003, a1, a2, a3] (.ref 1003 :: st) h Q) : E X d LW_law 281 [.ref 1003, a1, a2, a3] st h Q := Ev.aload_n (by decide +kernel : decode LW_law.2.1 281 = .ok (.aload_n 0, 1)) rfl rfl kk
set_option maxRecDepth 20000 in
theorem LW_law_282 {X : SX} {d : Nat} {st : List Value} {h : HH} {Q : Int32 → HH → Prop} {a0 a1 a2 : Value} {x : Int32}  (kk : E X d LW_law 283 [a0, a1, a2, .int x] (.int x :: st) h Q) : E X d LW_law 282 [a0, a1, a2, .int x] st h Q := Ev.iload_n (by decide +kernel : decode LW_law.2.1 282 = .ok (.iload_n 3, 1)) rfl rfl kk
set_option maxRecDepth 20000 in
theorem LW_law_283 {X : SX} {d : Nat} {L : List Value} {st : List Value} {h : HH} {Q : Int32 → HH → Prop}   (kk : E X d LW_law 284 L (.int 2 :: st) h Q) : E X d LW_law 283 L st h Q := Ev.iconst (by decide +kernel : decode LW_law.2.1 283 = .ok (.iconst 2, 1)) (by decide) kk
set_option maxRecDepth 20000 in
theorem LW_law_284 {X : SX} {d : Nat} {L : List Value} {st : List Value} {h : HH} {Q : Int32 → HH → Prop} {x z : Int32}  (kk : E X d LW_law 285 L (.int (x + z) :: st) h Q) : E X d LW_law 284 L (.int z :: .int x :: st) h Q := Ev.iadd (by decide +kernel : decode LW_law.2.1 284 = .ok (.iadd, 1)) kk
set_option maxRecDepth 20000 in
theorem LW_law_285 {X : SX} {d : Nat} {L : List Value} {st : List Value} {h : HH} {Q : Int32 → HH → Prop} {i : Int32} (hi : vp_in i X.1) (kk : E X d LW_law 286 L (.int (X.2 i.toNatClampNeg) :: st) h Q) : E X d LW_law 285 L (.int i :: .ref 1003 :: st) h Q := Ev.tScript (by decide +kernel : decode LW_law.2.1 285 = .ok (.iaload, 1)) hi kk
set_option maxRecDepth 20000 in
theorem LW_law_286 {X : SX} {d : Nat} {st : List Value} {h : HH} {Q : Int32 → HH → Prop} {a1 a2 a3 : Value}   (kk : E X d LW_law 287 [.ref 1003, a1, a2, a3] (.ref 1003 :: st) h Q) : E X d LW_law 286 [.ref 1003, a1, a2, a3] st h Q := Ev.aload_n (by decide +kernel : decode LW_law.2.1 286 = .ok (.aload_n 0, 1)) rfl rfl kk
set_option maxRecDepth 20000 in
theorem LW_law_287 {X : SX} {d : Nat} {st : List Value} {h : HH} {Q : Int32 → HH → Prop} {a0 a1 a2 : Value} {x : Int32}  (kk : E X d LW_law 288 [a0, a1, a2, .int x] (.int x :: st) h Q) : E X d LW_law 287 [a0, a1, a2, .int x] st h Q := Ev.iload_n (by decide +kernel : decode LW_law.2.1 287 = .ok (.iload_n 3, 1)) rfl rfl kk
set_option maxRecDepth 20000 in
theorem LW_law_288 {X : SX} {d : Nat} {L : List Value} {st : List Value} {h : HH} {Q : Int32 → HH → Prop}   (kk : E X d LW_law 289 L (.int 3 :: st) h Q) : E X d LW_law 288 L st h Q := Ev.iconst (by decide +kernel : decode LW_law.2.1 288 = .ok (.iconst 3, 1)) (by decide) kk
set_option maxRecDepth 20000 in
theorem LW_law_289 {X : SX} {d : Nat} {L : List Value} {st : List Value} {h : HH} {Q : Int32 → HH → Prop} {x z : Int32}  (kk : E X d LW_law 290 L (.int (x + z) :: st) h Q) : E X d LW_law 289 L (.int z :: .int x :: st) h Q := Ev.iadd (by decide +kernel : decode LW_law.2.1 289 = .ok (.iadd, 1)) kk
set_option maxRecDepth 20000 in
theorem LW_law_290 {X : SX} {d : Nat} {L : List Value} {st : List Value} {h : HH} {Q : Int32 → HH → Prop} {i : Int32} (hi : vp_in i X.1) (kk : E X d LW_law 291 L (.int (X.2 i.toNatClampNeg) :: st) h Q) : E X d LW_law 290 L (.int i :: .ref 1003 :: st) h Q := Ev.tScript (by decide +kernel : decode LW_law.2.1 290 = .ok (.iaload, 1)) hi kk
set_option maxRecDepth 20000 in
theorem LW_law_291 {X : SX} {d : Nat} {L : List Value} {st : List Value} {h : HH} {Q : Int32 → HH → Prop} {b0 : Int32} {b1 : Int32} {b2 : Int32}   (hc : (st.map (fun v => v.category)).sum ≤ 8) (kk : E X d FM_coins 0 [.ref 57, .int b0, .int b1, .int b2, U0] [] h (fun x h' => E X (d + 1) LW_law 294 L (.int x :: st) h' Q)) : E X (d + 1) LW_law 291 L (.int b2 :: .int b1 :: .int b0 :: .ref 57 :: st) h Q := E.callVi (n := 3) (ix := 26) (args := [.int b0, .int b1, .int b2]) (by decide +kernel : decode LW_law.2.1 291 = .ok (.invokevirtual 26, 3)) FM_coins_ok rfl rfl rfl wd_1068 wd_1069 wd_1070 rfl FM_coins_ds (Nat.le_of_ble_eq_true rfl) hc (by decide) kk
set_option maxRecDepth 20000 in
theorem LW_law_294 {X : SX} {d : Nat} {L : List Value} {st : List Value} {h : HH} {Q : Int32 → HH → Prop} {x z : Int32}  (kt : x = z → E X d LW_law 1477 L st h Q) (kf : ¬ x = z → E X d LW_law 297 L st h Q) : E X d LW_law 294 L (.int z :: .int x :: st) h Q := Ev.icmp_eq (tgt := 1477) (by decide +kernel : decode LW_law.2.1 294 = .ok (.if_icmp .eq 1183, 3)) (by decide) kt kf
set_option maxRecDepth 20000 in
theorem LW_law_297 {X : SX} {d : Nat} {L : List Value} {st : List Value} {h : HH} {Q : Int32 → HH → Prop}   (kk : E X d LW_law 298 L (.int 0 :: st) h Q) : E X d LW_law 297 L st h Q := Ev.iconst (by decide +kernel : decode LW_law.2.1 297 = .ok (.iconst 0, 1)) (by decide) kk
set_option maxRecDepth 20000 in
theorem LW_law_298 {X : SX} {d : Nat} {L : List Value} {h : HH} {Q : Int32 → HH → Prop} {x : Int32} (hb : narrow .boolean (.int x) = .int x) (hq : Q x h)  : E X d LW_law 298 L [.int x] h Q := Ev.ireturn (by decide +kernel : decode LW_law.2.1 298 = .ok (.ireturn, 1)) rfl hb ⟨rfl, hq⟩
set_option maxRecDepth 20000 in
theorem LW_law_299 {X : SX} {d : Nat} {st : List Value} {h : HH} {Q : Int32 → HH → Prop} {a0 a2 a3 : Value}   (kk : E X d LW_law 300 [a0, .ref 0, a2, a3] (.ref 0 :: st) h Q) : E X d LW_law 299 [a0, .ref 0, a2, a3] st h Q := Ev.aload_n (by decide +kernel : decode LW_law.2.1 299 = .ok (.aload_n 1, 1)) rfl rfl kk
set_option maxRecDepth 20000 in
theorem LW_law_300 {X : SX} {d : Nat} {st : List Value} {h : HH} {Q : Int32 → HH → Prop} {a1 a2 a3 : Value}   (kk : E X d LW_law 301 [.ref 1003, a1, a2, a3] (.ref 1003 :: st) h Q) : E X d LW_law 300 [.ref 1003, a1, a2, a3] st h Q := Ev.aload_n (by decide +kernel : decode LW_law.2.1 300 = .ok (.aload_n 0, 1)) rfl rfl kk
set_option maxRecDepth 20000 in
theorem LW_law_301 {X : SX} {d : Nat} {st : List Value} {h : HH} {Q : Int32 → HH → Prop} {a0 a1 a2 : Value} {x : Int32}  (kk : E X d LW_law 302 [a0, a1, a2, .int x] (.int x :: st) h Q) : E X d LW_law 301 [a0, a1, a2, .int x] st h Q := Ev.iload_n (by decide +kernel : decode LW_law.2.1 301 = .ok (.iload_n 3, 1)) rfl rfl kk
set_option maxRecDepth 20000 in
theorem LW_law_302 {X : SX} {d : Nat} {L : List Value} {st : List Value} {h : HH} {Q : Int32 → HH → Prop}   (kk : E X d LW_law 303 L (.int 1 :: st) h Q) : E X d LW_law 302 L st h Q := Ev.iconst (by decide +kernel : decode LW_law.2.1 302 = .ok (.iconst 1, 1)) (by decide) kk
set_option maxRecDepth 20000 in
theorem LW_law_303 {X : SX} {d : Nat} {L : List Value} {st : List Value} {h : HH} {Q : Int32 → HH → Prop} {x z : Int32}  (kk : E X d LW_law 304 L (.int (x + z) :: st) h Q) : E X d LW_law 303 L (.int z :: .int x :: st) h Q := Ev.iadd (by decide +kernel : decode LW_law.2.1 303 = .ok (.iadd, 1)) kk
set_option maxRecDepth 20000 in
theorem LW_law_304 {X : SX} {d : Nat} {L : List Value} {st : List Value} {h : HH} {Q : Int32 → HH → Prop} {i : Int32} (hi : vp_in i X.1) (kk : E X d LW_law 305 L (.int (X.2 i.toNatClampNeg) :: st) h Q) : E X d LW_law 304 L (.int i :: .ref 1003 :: st) h Q := Ev.tScript (by decide +kernel : decode LW_law.2.1 304 = .ok (.iaload, 1)) hi kk
set_option maxRecDepth 20000 in
theorem LW_law_305 {X : SX} {d : Nat} {st : List Value} {h : HH} {Q : Int32 → HH → Prop} {a1 a2 a3 : Value}   (kk : E X d LW_law 306 [.ref 1003, a1, a2, a3] (.ref 1003 :: st) h Q) : E X d LW_law 305 [.ref 1003, a1, a2, a3] st h Q := Ev.aload_n (by decide +kernel : decode LW_law.2.1 305 = .ok (.aload_n 0, 1)) rfl rfl kk
set_option maxRecDepth 20000 in
theorem LW_law_306 {X : SX} {d : Nat} {st : List Value} {h : HH} {Q : Int32 → HH → Prop} {a0 a1 a2 : Value} {x : Int32}  (kk : E X d LW_law 307 [a0, a1, a2, .int x] (.int x :: st) h Q) : E X d LW_law 306 [a0, a1, a2, .int x] st h Q := Ev.iload_n (by decide +kernel : decode LW_law.2.1 306 = .ok (.iload_n 3, 1)) rfl rfl kk
set_option maxRecDepth 20000 in
theorem LW_law_307 {X : SX} {d : Nat} {L : List Value} {st : List Value} {h : HH} {Q : Int32 → HH → Prop}   (kk : E X d LW_law 308 L (.int 2 :: st) h Q) : E X d LW_law 307 L st h Q := Ev.iconst (by decide +kernel : decode LW_law.2.1 307 = .ok (.iconst 2, 1)) (by decide) kk
set_option maxRecDepth 20000 in
theorem LW_law_308 {X : SX} {d : Nat} {L : List Value} {st : List Value} {h : HH} {Q : Int32 → HH → Prop} {x z : Int32}  (kk : E X d LW_law 309 L (.int (x + z) :: st) h Q) : E X d LW_law 308 L (.int z :: .int x :: st) h Q := Ev.iadd (by decide +kernel : decode LW_law.2.1 308 = .ok (.iadd, 1)) kk
set_option maxRecDepth 20000 in
theorem LW_law_309 {X : SX} {d : Nat} {L : List Value} {st : List Value} {h : HH} {Q : Int32 → HH → Prop} {i : Int32} (hi : vp_in i X.1) (kk : E X d LW_law 310 L (.int (X.2 i.toNatClampNeg) :: st) h Q) : E X d LW_law 309 L (.int i :: .ref 1003 :: st) h Q := Ev.tScript (by decide +kernel : decode LW_law.2.1 309 = .ok (.iaload, 1)) hi kk
set_option maxRecDepth 20000 in
theorem LW_law_310 {X : SX} {d : Nat} {L : List Value} {st : List Value} {h : HH} {Q : Int32 → HH → Prop} {b0 : Int32} {b1 : Int32}   (hc : (st.map (fun v => v.category)).sum ≤ 8) (kk : E X d FC_price 0 [.ref 0, .int b0, .int b1] [] h (fun x h' => E X (d + 1) LW_law 313 L (.int x :: st) h' Q)) : E X (d + 1) LW_law 310 L (.int b1 :: .int b0 :: .ref 0 :: st) h Q := E.callVi (n := 2) (ix := 27) (args := [.int b0, .int b1]) (by decide +kernel : decode LW_law.2.1 310 = .ok (.invokevirtual 27, 3)) FC_price_ok rfl rfl rfl wd_388 wd_389 wd_390 rfl FC_price_ds (Nat.le_of_ble_eq_true rfl) hc (by decide) kk
set_option maxRecDepth 20000 in
theorem LW_law_313 {X : SX} {d : Nat} {st : List Value} {h : HH} {Q : Int32 → HH → Prop} {a0 a1 a3 : Value}   (kk : E X d LW_law 314 [a0, a1, .ref 57, a3] (.ref 57 :: st) h Q) : E X d LW_law 313 [a0, a1, .ref 57, a3] st h Q := Ev.aload_n (by decide +kernel : decode LW_law.2.1 313 = .ok (.aload_n 2, 1)) rfl rfl kk
set_option maxRecDepth 20000 in
theorem LW_law_314 {X : SX} {d : Nat} {st : List Value} {h : HH} {Q : Int32 → HH → Prop} {a1 a2 a3 : Value}   (kk : E X d LW_law 315 [.ref 1003, a1, a2, a3] (.ref 1003 :: st) h Q) : E X d LW_law 314 [.ref 1003, a1, a2, a3] st h Q := Ev.aload_n (by decide +kernel : decode LW_law.2.1 314 = .ok (.aload_n 0, 1)) rfl rfl kk
set_option maxRecDepth 20000 in
theorem LW_law_315 {X : SX} {d : Nat} {st : List Value} {h : HH} {Q : Int32 → HH → Prop} {a0 a1 a2 : Value} {x : Int32}  (kk : E X d LW_law 316 [a0, a1, a2, .int x] (.int x :: st) h Q) : E X d LW_law 315 [a0, a1, a2, .int x] st h Q := Ev.iload_n (by decide +kernel : decode LW_law.2.1 315 = .ok (.iload_n 3, 1)) rfl rfl kk
set_option maxRecDepth 20000 in
theorem LW_law_316 {X : SX} {d : Nat} {L : List Value} {st : List Value} {h : HH} {Q : Int32 → HH → Prop}   (kk : E X d LW_law 317 L (.int 1 :: st) h Q) : E X d LW_law 316 L st h Q := Ev.iconst (by decide +kernel : decode LW_law.2.1 316 = .ok (.iconst 1, 1)) (by decide) kk
set_option maxRecDepth 20000 in
theorem LW_law_317 {X : SX} {d : Nat} {L : List Value} {st : List Value} {h : HH} {Q : Int32 → HH → Prop} {x z : Int32}  (kk : E X d LW_law 318 L (.int (x + z) :: st) h Q) : E X d LW_law 317 L (.int z :: .int x :: st) h Q := Ev.iadd (by decide +kernel : decode LW_law.2.1 317 = .ok (.iadd, 1)) kk
set_option maxRecDepth 20000 in
theorem LW_law_318 {X : SX} {d : Nat} {L : List Value} {st : List Value} {h : HH} {Q : Int32 → HH → Prop} {i : Int32} (hi : vp_in i X.1) (kk : E X d LW_law 319 L (.int (X.2 i.toNatClampNeg) :: st) h Q) : E X d LW_law 318 L (.int i :: .ref 1003 :: st) h Q := Ev.tScript (by decide +kernel : decode LW_law.2.1 318 = .ok (.iaload, 1)) hi kk
set_option maxRecDepth 20000 in
theorem LW_law_319 {X : SX} {d : Nat} {st : List Value} {h : HH} {Q : Int32 → HH → Prop} {a1 a2 a3 : Value}   (kk : E X d LW_law 320 [.ref 1003, a1, a2, a3] (.ref 1003 :: st) h Q) : E X d LW_law 319 [.ref 1003, a1, a2, a3] st h Q := Ev.aload_n (by decide +kernel : decode LW_law.2.1 319 = .ok (.aload_n 0, 1)) rfl rfl kk
set_option maxRecDepth 20000 in
theorem LW_law_320 {X : SX} {d : Nat} {st : List Value} {h : HH} {Q : Int32 → HH → Prop} {a0 a1 a2 : Value} {x : Int32}  (kk : E X d LW_law 321 [a0, a1, a2, .int x] (.int x :: st) h Q) : E X d LW_law 320 [a0, a1, a2, .int x] st h Q := Ev.iload_n (by decide +kernel : decode LW_law.2.1 320 = .ok (.iload_n 3, 1)) rfl rfl kk
set_option maxRecDepth 20000 in
theorem LW_law_321 {X : SX} {d : Nat} {L : List Value} {st : List Value} {h : HH} {Q : Int32 → HH → Prop}   (kk : E X d LW_law 322 L (.int 2 :: st) h Q) : E X d LW_law 321 L st h Q := Ev.iconst (by decide +kernel : decode LW_law.2.1 321 = .ok (.iconst 2, 1)) (by decide) kk
set_option maxRecDepth 20000 in
theorem LW_law_322 {X : SX} {d : Nat} {L : List Value} {st : List Value} {h : HH} {Q : Int32 → HH → Prop} {x z : Int32}  (kk : E X d LW_law 323 L (.int (x + z) :: st) h Q) : E X d LW_law 322 L (.int z :: .int x :: st) h Q := Ev.iadd (by decide +kernel : decode LW_law.2.1 322 = .ok (.iadd, 1)) kk
set_option maxRecDepth 20000 in
theorem LW_law_323 {X : SX} {d : Nat} {L : List Value} {st : List Value} {h : HH} {Q : Int32 → HH → Prop} {i : Int32} (hi : vp_in i X.1) (kk : E X d LW_law 324 L (.int (X.2 i.toNatClampNeg) :: st) h Q) : E X d LW_law 323 L (.int i :: .ref 1003 :: st) h Q := Ev.tScript (by decide +kernel : decode LW_law.2.1 323 = .ok (.iaload, 1)) hi kk
set_option maxRecDepth 20000 in
theorem LW_law_324 {X : SX} {d : Nat} {L : List Value} {st : List Value} {h : HH} {Q : Int32 → HH → Prop} {b0 : Int32} {b1 : Int32}   (hc : (st.map (fun v => v.category)).sum ≤ 8) (kk : E X d FM_price 0 [.ref 57, .int b0, .int b1, U0] [] h (fun x h' => E X (d + 1) LW_law 327 L (.int x :: st) h' Q)) : E X (d + 1) LW_law 324 L (.int b1 :: .int b0 :: .ref 57 :: st) h Q := E.callVi (n := 2) (ix := 30) (args := [.int b0, .int b1]) (by decide +kernel : decode LW_law.2.1 324 = .ok (.invokevirtual 30, 3)) FM_price_ok rfl rfl rfl wd_1072 wd_1073 wd_1074 rfl FM_price_ds (Nat.le_of_ble_eq_true rfl) hc (by decide) kk
set_option maxRecDepth 20000 in
theorem LW_law_327 {X : SX} {d : Nat} {L : List Value} {st : List Value} {h : HH} {Q : Int32 → HH → Prop} {x z : Int32}  (kt : x = z → E X d LW_law 1477 L st h Q) (kf : ¬ x = z → E X d LW_law 330 L st h Q) : E X d LW_law 327 L (.int z :: .int x :: st) h Q := Ev.icmp_eq (tgt := 1477) (by decide +kernel : decode LW_law.2.1 327 = .ok (.if_icmp .eq 1150, 3)) (by decide) kt kf
set_option maxRecDepth 20000 in
theorem LW_law_330 {X : SX} {d : Nat} {L : List Value} {st : List Value} {h : HH} {Q : Int32 → HH → Prop}   (kk : E X d LW_law 331 L (.int 0 :: st) h Q) : E X d LW_law 330 L st h Q := Ev.iconst (by decide +kernel : decode LW_law.2.1 330 = .ok (.iconst 0, 1)) (by decide) kk
set_option maxRecDepth 20000 in
theorem LW_law_331 {X : SX} {d : Nat} {L : List Value} {h : HH} {Q : Int32 → HH → Prop} {x : Int32} (hb : narrow .boolean (.int x) = .int x) (hq : Q x h)  : E X d LW_law 331 L [.int x] h Q := Ev.ireturn (by decide +kernel : decode LW_law.2.1 331 = .ok (.ireturn, 1)) rfl hb ⟨rfl, hq⟩
set_option maxRecDepth 20000 in
theorem LW_law_332 {X : SX} {d : Nat} {st : List Value} {h : HH} {Q : Int32 → HH → Prop} {a0 a2 a3 : Value}   (kk : E X d LW_law 333 [a0, .ref 0, a2, a3] (.ref 0 :: st) h Q) : E X d LW_law 332 [a0, .ref 0, a2, a3] st h Q := Ev.aload_n (by decide +kernel : decode LW_law.2.1 332 = .ok (.aload_n 1, 1)) rfl rfl kk
set_option maxRecDepth 20000 in
theorem LW_law_333 {X : SX} {d : Nat} {st : List Value} {h : HH} {Q : Int32 → HH → Prop} {a1 a2 a3 : Value}   (kk : E X d LW_law 334 [.ref 1003, a1, a2, a3] (.ref 1003 :: st) h Q) : E X d LW_law 333 [.ref 1003, a1, a2, a3] st h Q := Ev.aload_n (by decide +kernel : decode LW_law.2.1 333 = .ok (.aload_n 0, 1)) rfl rfl kk
set_option maxRecDepth 20000 in
theorem LW_law_334 {X : SX} {d : Nat} {st : List Value} {h : HH} {Q : Int32 → HH → Prop} {a0 a1 a2 : Value} {x : Int32}  (kk : E X d LW_law 335 [a0, a1, a2, .int x] (.int x :: st) h Q) : E X d LW_law 334 [a0, a1, a2, .int x] st h Q := Ev.iload_n (by decide +kernel : decode LW_law.2.1 334 = .ok (.iload_n 3, 1)) rfl rfl kk
set_option maxRecDepth 20000 in
theorem LW_law_335 {X : SX} {d : Nat} {L : List Value} {st : List Value} {h : HH} {Q : Int32 → HH → Prop}   (kk : E X d LW_law 336 L (.int 1 :: st) h Q) : E X d LW_law 335 L st h Q := Ev.iconst (by decide +kernel : decode LW_law.2.1 335 = .ok (.iconst 1, 1)) (by decide) kk
set_option maxRecDepth 20000 in
theorem LW_law_336 {X : SX} {d : Nat} {L : List Value} {st : List Value} {h : HH} {Q : Int32 → HH → Prop} {x z : Int32}  (kk : E X d LW_law 337 L (.int (x + z) :: st) h Q) : E X d LW_law 336 L (.int z :: .int x :: st) h Q := Ev.iadd (by decide +kernel : decode LW_law.2.1 336 = .ok (.iadd, 1)) kk
set_option maxRecDepth 20000 in
theorem LW_law_337 {X : SX} {d : Nat} {L : List Value} {st : List Value} {h : HH} {Q : Int32 → HH → Prop} {i : Int32} (hi : vp_in i X.1) (kk : E X d LW_law 338 L (.int (X.2 i.toNatClampNeg) :: st) h Q) : E X d LW_law 337 L (.int i :: .ref 1003 :: st) h Q := Ev.tScript (by decide +kernel : decode LW_law.2.1 337 = .ok (.iaload, 1)) hi kk
set_option maxRecDepth 20000 in
theorem LW_law_338 {X : SX} {d : Nat} {L : List Value} {st : List Value} {h : HH} {Q : Int32 → HH → Prop} {b0 : Int32}   (hc : (st.map (fun v => v.category)).sum ≤ 8) (kk : E X d FC_wage 0 [.ref 0, .int b0, U0] [] h (fun x h' => E X (d + 1) LW_law 341 L (.int x :: st) h' Q)) : E X (d + 1) LW_law 338 L (.int b0 :: .ref 0 :: st) h Q := E.callVi (n := 1) (ix := 31) (args := [.int b0]) (by decide +kernel : decode LW_law.2.1 338 = .ok (.invokevirtual 31, 3)) FC_wage_ok rfl rfl rfl wd_392 wd_393 wd_394 rfl FC_wage_ds (Nat.le_of_ble_eq_true rfl) hc (by decide) kk
set_option maxRecDepth 20000 in
theorem LW_law_341 {X : SX} {d : Nat} {st : List Value} {h : HH} {Q : Int32 → HH → Prop} {a0 a1 a3 : Value}   (kk : E X d LW_law 342 [a0, a1, .ref 57, a3] (.ref 57 :: st) h Q) : E X d LW_law 341 [a0, a1, .ref 57, a3] st h Q := Ev.aload_n (by decide +kernel : decode LW_law.2.1 341 = .ok (.aload_n 2, 1)) rfl rfl kk
set_option maxRecDepth 20000 in
theorem LW_law_342 {X : SX} {d : Nat} {st : List Value} {h : HH} {Q : Int32 → HH → Prop} {a1 a2 a3 : Value}   (kk : E X d LW_law 343 [.ref 1003, a1, a2, a3] (.ref 1003 :: st) h Q) : E X d LW_law 342 [.ref 1003, a1, a2, a3] st h Q := Ev.aload_n (by decide +kernel : decode LW_law.2.1 342 = .ok (.aload_n 0, 1)) rfl rfl kk
set_option maxRecDepth 20000 in
theorem LW_law_343 {X : SX} {d : Nat} {st : List Value} {h : HH} {Q : Int32 → HH → Prop} {a0 a1 a2 : Value} {x : Int32}  (kk : E X d LW_law 344 [a0, a1, a2, .int x] (.int x :: st) h Q) : E X d LW_law 343 [a0, a1, a2, .int x] st h Q := Ev.iload_n (by decide +kernel : decode LW_law.2.1 343 = .ok (.iload_n 3, 1)) rfl rfl kk
set_option maxRecDepth 20000 in
theorem LW_law_344 {X : SX} {d : Nat} {L : List Value} {st : List Value} {h : HH} {Q : Int32 → HH → Prop}   (kk : E X d LW_law 345 L (.int 1 :: st) h Q) : E X d LW_law 344 L st h Q := Ev.iconst (by decide +kernel : decode LW_law.2.1 344 = .ok (.iconst 1, 1)) (by decide) kk
set_option maxRecDepth 20000 in
theorem LW_law_345 {X : SX} {d : Nat} {L : List Value} {st : List Value} {h : HH} {Q : Int32 → HH → Prop} {x z : Int32}  (kk : E X d LW_law 346 L (.int (x + z) :: st) h Q) : E X d LW_law 345 L (.int z :: .int x :: st) h Q := Ev.iadd (by decide +kernel : decode LW_law.2.1 345 = .ok (.iadd, 1)) kk
set_option maxRecDepth 20000 in
theorem LW_law_346 {X : SX} {d : Nat} {L : List Value} {st : List Value} {h : HH} {Q : Int32 → HH → Prop} {i : Int32} (hi : vp_in i X.1) (kk : E X d LW_law 347 L (.int (X.2 i.toNatClampNeg) :: st) h Q) : E X d LW_law 346 L (.int i :: .ref 1003 :: st) h Q := Ev.tScript (by decide +kernel : decode LW_law.2.1 346 = .ok (.iaload, 1)) hi kk
set_option maxRecDepth 20000 in
theorem LW_law_347 {X : SX} {d : Nat} {L : List Value} {st : List Value} {h : HH} {Q : Int32 → HH → Prop} {b0 : Int32}   (hc : (st.map (fun v => v.category)).sum ≤ 8) (kk : E X d FM_wage 0 [.ref 57, .int b0, U0] [] h (fun x h' => E X (d + 1) LW_law 350 L (.int x :: st) h' Q)) : E X (d + 1) LW_law 347 L (.int b0 :: .ref 57 :: st) h Q := E.callVi (n := 1) (ix := 35) (args := [.int b0]) (by decide +kernel : decode LW_law.2.1 347 = .ok (.invokevirtual 35, 3)) FM_wage_ok rfl rfl rfl wd_1076 wd_1077 wd_1078 rfl FM_wage_ds (Nat.le_of_ble_eq_true rfl) hc (by decide) kk
set_option maxRecDepth 20000 in
theorem LW_law_350 {X : SX} {d : Nat} {L : List Value} {st : List Value} {h : HH} {Q : Int32 → HH → Prop} {x z : Int32}  (kt : x = z → E X d LW_law 1477 L st h Q) (kf : ¬ x = z → E X d LW_law 353 L st h Q) : E X d LW_law 350 L (.int z :: .int x :: st) h Q := Ev.icmp_eq (tgt := 1477) (by decide +kernel : decode LW_law.2.1 350 = .ok (.if_icmp .eq 1127, 3)) (by decide) kt kf
set_option maxRecDepth 20000 in
theorem LW_law_353 {X : SX} {d : Nat} {L : List Value} {st : List Value} {h : HH} {Q : Int32 → HH → Prop}   (kk : E X d LW_law 354 L (.int 0 :: st) h Q) : E X d LW_law 353 L st h Q := Ev.iconst (by decide +kernel : decode LW_law.2.1 353 = .ok (.iconst 0, 1)) (by decide) kk
set_option maxRecDepth 20000 in
theorem LW_law_354 {X : SX} {d : Nat} {L : List Value} {h : HH} {Q : Int32 → HH → Prop} {x : Int32} (hb : narrow .boolean (.int x) = .int x) (hq : Q x h)  : E X d LW_law 354 L [.int x] h Q := Ev.ireturn (by decide +kernel : decode LW_law.2.1 354 = .ok (.ireturn, 1)) rfl hb ⟨rfl, hq⟩
set_option maxRecDepth 20000 in
theorem LW_law_355 {X : SX} {d : Nat} {st : List Value} {h : HH} {Q : Int32 → HH → Prop} {a0 a2 a3 : Value}   (kk : E X d LW_law 356 [a0, .ref 0, a2, a3] (.ref 0 :: st) h Q) : E X d LW_law 355 [a0, .ref 0, a2, a3] st h Q := Ev.aload_n (by decide +kernel : decode LW_law.2.1 355 = .ok (.aload_n 1, 1)) rfl rfl kk
set_option maxRecDepth 20000 in
theorem LW_law_356 {X : SX} {d : Nat} {st : List Value} {h : HH} {Q : Int32 → HH → Prop} {a1 a2 a3 : Value}   (kk : E X d LW_law 357 [.ref 1003, a1, a2, a3] (.ref 1003 :: st) h Q) : E X d LW_law 356 [.ref 1003, a1, a2, a3] st h Q := Ev.aload_n (by decide +kernel : decode LW_law.2.1 356 = .ok (.aload_n 0, 1)) rfl rfl kk
set_option maxRecDepth 20000 in
theorem LW_law_357 {X : SX} {d : Nat} {st : List Value} {h : HH} {Q : Int32 → HH → Prop} {a0 a1 a2 : Value} {x : Int32}  (kk : E X d LW_law 358 [a0, a1, a2, .int x] (.int x :: st) h Q) : E X d LW_law 357 [a0, a1, a2, .int x] st h Q := Ev.iload_n (by decide +kernel : decode LW_law.2.1 357 = .ok (.iload_n 3, 1)) rfl rfl kk
set_option maxRecDepth 20000 in
theorem LW_law_358 {X : SX} {d : Nat} {L : List Value} {st : List Value} {h : HH} {Q : Int32 → HH → Prop}   (kk : E X d LW_law 359 L (.int 1 :: st) h Q) : E X d LW_law 358 L st h Q := Ev.iconst (by decide +kernel : decode LW_law.2.1 358 = .ok (.iconst 1, 1)) (by decide) kk
set_option maxRecDepth 20000 in
theorem LW_law_359 {X : SX} {d : Nat} {L : List Value} {st : List Value} {h : HH} {Q : Int32 → HH → Prop} {x z : Int32}  (kk : E X d LW_law 360 L (.int (x + z) :: st) h Q) : E X d LW_law 359 L (.int z :: .int x :: st) h Q := Ev.iadd (by decide +kernel : decode LW_law.2.1 359 = .ok (.iadd, 1)) kk
set_option maxRecDepth 20000 in
theorem LW_law_360 {X : SX} {d : Nat} {L : List Value} {st : List Value} {h : HH} {Q : Int32 → HH → Prop} {i : Int32} (hi : vp_in i X.1) (kk : E X d LW_law 361 L (.int (X.2 i.toNatClampNeg) :: st) h Q) : E X d LW_law 360 L (.int i :: .ref 1003 :: st) h Q := Ev.tScript (by decide +kernel : decode LW_law.2.1 360 = .ok (.iaload, 1)) hi kk
set_option maxRecDepth 20000 in
theorem LW_law_361 {X : SX} {d : Nat} {st : List Value} {h : HH} {Q : Int32 → HH → Prop} {a1 a2 a3 : Value}   (kk : E X d LW_law 362 [.ref 1003, a1, a2, a3] (.ref 1003 :: st) h Q) : E X d LW_law 361 [.ref 1003, a1, a2, a3] st h Q := Ev.aload_n (by decide +kernel : decode LW_law.2.1 361 = .ok (.aload_n 0, 1)) rfl rfl kk
set_option maxRecDepth 20000 in
theorem LW_law_362 {X : SX} {d : Nat} {st : List Value} {h : HH} {Q : Int32 → HH → Prop} {a0 a1 a2 : Value} {x : Int32}  (kk : E X d LW_law 363 [a0, a1, a2, .int x] (.int x :: st) h Q) : E X d LW_law 362 [a0, a1, a2, .int x] st h Q := Ev.iload_n (by decide +kernel : decode LW_law.2.1 362 = .ok (.iload_n 3, 1)) rfl rfl kk
set_option maxRecDepth 20000 in
theorem LW_law_363 {X : SX} {d : Nat} {L : List Value} {st : List Value} {h : HH} {Q : Int32 → HH → Prop}   (kk : E X d LW_law 364 L (.int 2 :: st) h Q) : E X d LW_law 363 L st h Q := Ev.iconst (by decide +kernel : decode LW_law.2.1 363 = .ok (.iconst 2, 1)) (by decide) kk
set_option maxRecDepth 20000 in
theorem LW_law_364 {X : SX} {d : Nat} {L : List Value} {st : List Value} {h : HH} {Q : Int32 → HH → Prop} {x z : Int32}  (kk : E X d LW_law 365 L (.int (x + z) :: st) h Q) : E X d LW_law 364 L (.int z :: .int x :: st) h Q := Ev.iadd (by decide +kernel : decode LW_law.2.1 364 = .ok (.iadd, 1)) kk
set_option maxRecDepth 20000 in
theorem LW_law_365 {X : SX} {d : Nat} {L : List Value} {st : List Value} {h : HH} {Q : Int32 → HH → Prop} {i : Int32} (hi : vp_in i X.1) (kk : E X d LW_law 366 L (.int (X.2 i.toNatClampNeg) :: st) h Q) : E X d LW_law 365 L (.int i :: .ref 1003 :: st) h Q := Ev.tScript (by decide +kernel : decode LW_law.2.1 365 = .ok (.iaload, 1)) hi kk
set_option maxRecDepth 20000 in
theorem LW_law_366 {X : SX} {d : Nat} {st : List Value} {h : HH} {Q : Int32 → HH → Prop} {a1 a2 a3 : Value}   (kk : E X d LW_law 367 [.ref 1003, a1, a2, a3] (.ref 1003 :: st) h Q) : E X d LW_law 366 [.ref 1003, a1, a2, a3] st h Q := Ev.aload_n (by decide +kernel : decode LW_law.2.1 366 = .ok (.aload_n 0, 1)) rfl rfl kk
set_option maxRecDepth 20000 in
theorem LW_law_367 {X : SX} {d : Nat} {st : List Value} {h : HH} {Q : Int32 → HH → Prop} {a0 a1 a2 : Value} {x : Int32}  (kk : E X d LW_law 368 [a0, a1, a2, .int x] (.int x :: st) h Q) : E X d LW_law 367 [a0, a1, a2, .int x] st h Q := Ev.iload_n (by decide +kernel : decode LW_law.2.1 367 = .ok (.iload_n 3, 1)) rfl rfl kk
set_option maxRecDepth 20000 in
theorem LW_law_368 {X : SX} {d : Nat} {L : List Value} {st : List Value} {h : HH} {Q : Int32 → HH → Prop}   (kk : E X d LW_law 369 L (.int 3 :: st) h Q) : E X d LW_law 368 L st h Q := Ev.iconst (by decide +kernel : decode LW_law.2.1 368 = .ok (.iconst 3, 1)) (by decide) kk
set_option maxRecDepth 20000 in
theorem LW_law_369 {X : SX} {d : Nat} {L : List Value} {st : List Value} {h : HH} {Q : Int32 → HH → Prop} {x z : Int32}  (kk : E X d LW_law 370 L (.int (x + z) :: st) h Q) : E X d LW_law 369 L (.int z :: .int x :: st) h Q := Ev.iadd (by decide +kernel : decode LW_law.2.1 369 = .ok (.iadd, 1)) kk
set_option maxRecDepth 20000 in
theorem LW_law_370 {X : SX} {d : Nat} {L : List Value} {st : List Value} {h : HH} {Q : Int32 → HH → Prop} {i : Int32} (hi : vp_in i X.1) (kk : E X d LW_law 371 L (.int (X.2 i.toNatClampNeg) :: st) h Q) : E X d LW_law 370 L (.int i :: .ref 1003 :: st) h Q := Ev.tScript (by decide +kernel : decode LW_law.2.1 370 = .ok (.iaload, 1)) hi kk
set_option maxRecDepth 20000 in
theorem LW_law_371 {X : SX} {d : Nat} {st : List Value} {h : HH} {Q : Int32 → HH → Prop} {a1 a2 a3 : Value}   (kk : E X d LW_law 372 [.ref 1003, a1, a2, a3] (.ref 1003 :: st) h Q) : E X d LW_law 371 [.ref 1003, a1, a2, a3] st h Q := Ev.aload_n (by decide +kernel : decode LW_law.2.1 371 = .ok (.aload_n 0, 1)) rfl rfl kk
set_option maxRecDepth 20000 in
theorem LW_law_372 {X : SX} {d : Nat} {st : List Value} {h : HH} {Q : Int32 → HH → Prop} {a0 a1 a2 : Value} {x : Int32}  (kk : E X d LW_law 373 [a0, a1, a2, .int x] (.int x :: st) h Q) : E X d LW_law 372 [a0, a1, a2, .int x] st h Q := Ev.iload_n (by decide +kernel : decode LW_law.2.1 372 = .ok (.iload_n 3, 1)) rfl rfl kk
set_option maxRecDepth 20000 in
theorem LW_law_373 {X : SX} {d : Nat} {L : List Value} {st : List Value} {h : HH} {Q : Int32 → HH → Prop}   (kk : E X d LW_law 374 L (.int 4 :: st) h Q) : E X d LW_law 373 L st h Q := Ev.iconst (by decide +kernel : decode LW_law.2.1 373 = .ok (.iconst 4, 1)) (by decide) kk
set_option maxRecDepth 20000 in
theorem LW_law_374 {X : SX} {d : Nat} {L : List Value} {st : List Value} {h : HH} {Q : Int32 → HH → Prop} {x z : Int32}  (kk : E X d LW_law 375 L (.int (x + z) :: st) h Q) : E X d LW_law 374 L (.int z :: .int x :: st) h Q := Ev.iadd (by decide +kernel : decode LW_law.2.1 374 = .ok (.iadd, 1)) kk
set_option maxRecDepth 20000 in
theorem LW_law_375 {X : SX} {d : Nat} {L : List Value} {st : List Value} {h : HH} {Q : Int32 → HH → Prop} {i : Int32} (hi : vp_in i X.1) (kk : E X d LW_law 376 L (.int (X.2 i.toNatClampNeg) :: st) h Q) : E X d LW_law 375 L (.int i :: .ref 1003 :: st) h Q := Ev.tScript (by decide +kernel : decode LW_law.2.1 375 = .ok (.iaload, 1)) hi kk
set_option maxRecDepth 20000 in
theorem LW_law_376 {X : SX} {d : Nat} {L : List Value} {st : List Value} {h : HH} {Q : Int32 → HH → Prop} {b0 : Int32} {b1 : Int32} {b2 : Int32} {b3 : Int32}   (hc : (st.map (fun v => v.category)).sum ≤ 8) (kk : E X d FC_sign 0 [.ref 0, .int b0, .int b1, .int b2, .int b3, U0] [] h (fun x h' => E X (d + 1) LW_law 379 L (.int x :: st) h' Q)) : E X (d + 1) LW_law 376 L (.int b3 :: .int b2 :: .int b1 :: .int b0 :: .ref 0 :: st) h Q := E.callVi (n := 4) (ix := 36) (args := [.int b0, .int b1, .int b2, .int b3]) (by decide +kernel : decode LW_law.2.1 376 = .ok (.invokevirtual 36, 3)) FC_sign_ok rfl rfl rfl wd_396 wd_397 wd_398 rfl FC_sign_ds (Nat.le_of_ble_eq_true rfl) hc (by decide) kk
set_option maxRecDepth 20000 in
theorem LW_law_379 {X : SX} {d : Nat} {st : List Value} {h : HH} {Q : Int32 → HH → Prop} {a0 a1 a3 : Value}   (kk : E X d LW_law 380 [a0, a1, .ref 57, a3] (.ref 57 :: st) h Q) : E X d LW_law 379 [a0, a1, .ref 57, a3] st h Q := Ev.aload_n (by decide +kernel : decode LW_law.2.1 379 = .ok (.aload_n 2, 1)) rfl rfl kk
set_option maxRecDepth 20000 in
theorem LW_law_380 {X : SX} {d : Nat} {st : List Value} {h : HH} {Q : Int32 → HH → Prop} {a1 a2 a3 : Value}   (kk : E X d LW_law 381 [.ref 1003, a1, a2, a3] (.ref 1003 :: st) h Q) : E X d LW_law 380 [.ref 1003, a1, a2, a3] st h Q := Ev.aload_n (by decide +kernel : decode LW_law.2.1 380 = .ok (.aload_n 0, 1)) rfl rfl kk
set_option maxRecDepth 20000 in
theorem LW_law_381 {X : SX} {d : Nat} {st : List Value} {h : HH} {Q : Int32 → HH → Prop} {a0 a1 a2 : Value} {x : Int32}  (kk : E X d LW_law 382 [a0, a1, a2, .int x] (.int x :: st) h Q) : E X d LW_law 381 [a0, a1, a2, .int x] st h Q := Ev.iload_n (by decide +kernel : decode LW_law.2.1 381 = .ok (.iload_n 3, 1)) rfl rfl kk
set_option maxRecDepth 20000 in
theorem LW_law_382 {X : SX} {d : Nat} {L : List Value} {st : List Value} {h : HH} {Q : Int32 → HH → Prop}   (kk : E X d LW_law 383 L (.int 1 :: st) h Q) : E X d LW_law 382 L st h Q := Ev.iconst (by decide +kernel : decode LW_law.2.1 382 = .ok (.iconst 1, 1)) (by decide) kk
set_option maxRecDepth 20000 in
theorem LW_law_383 {X : SX} {d : Nat} {L : List Value} {st : List Value} {h : HH} {Q : Int32 → HH → Prop} {x z : Int32}  (kk : E X d LW_law 384 L (.int (x + z) :: st) h Q) : E X d LW_law 383 L (.int z :: .int x :: st) h Q := Ev.iadd (by decide +kernel : decode LW_law.2.1 383 = .ok (.iadd, 1)) kk
set_option maxRecDepth 20000 in
theorem LW_law_384 {X : SX} {d : Nat} {L : List Value} {st : List Value} {h : HH} {Q : Int32 → HH → Prop} {i : Int32} (hi : vp_in i X.1) (kk : E X d LW_law 385 L (.int (X.2 i.toNatClampNeg) :: st) h Q) : E X d LW_law 384 L (.int i :: .ref 1003 :: st) h Q := Ev.tScript (by decide +kernel : decode LW_law.2.1 384 = .ok (.iaload, 1)) hi kk
set_option maxRecDepth 20000 in
theorem LW_law_385 {X : SX} {d : Nat} {st : List Value} {h : HH} {Q : Int32 → HH → Prop} {a1 a2 a3 : Value}   (kk : E X d LW_law 386 [.ref 1003, a1, a2, a3] (.ref 1003 :: st) h Q) : E X d LW_law 385 [.ref 1003, a1, a2, a3] st h Q := Ev.aload_n (by decide +kernel : decode LW_law.2.1 385 = .ok (.aload_n 0, 1)) rfl rfl kk
set_option maxRecDepth 20000 in
theorem LW_law_386 {X : SX} {d : Nat} {st : List Value} {h : HH} {Q : Int32 → HH → Prop} {a0 a1 a2 : Value} {x : Int32}  (kk : E X d LW_law 387 [a0, a1, a2, .int x] (.int x :: st) h Q) : E X d LW_law 386 [a0, a1, a2, .int x] st h Q := Ev.iload_n (by decide +kernel : decode LW_law.2.1 386 = .ok (.iload_n 3, 1)) rfl rfl kk
set_option maxRecDepth 20000 in
theorem LW_law_387 {X : SX} {d : Nat} {L : List Value} {st : List Value} {h : HH} {Q : Int32 → HH → Prop}   (kk : E X d LW_law 388 L (.int 2 :: st) h Q) : E X d LW_law 387 L st h Q := Ev.iconst (by decide +kernel : decode LW_law.2.1 387 = .ok (.iconst 2, 1)) (by decide) kk
set_option maxRecDepth 20000 in
theorem LW_law_388 {X : SX} {d : Nat} {L : List Value} {st : List Value} {h : HH} {Q : Int32 → HH → Prop} {x z : Int32}  (kk : E X d LW_law 389 L (.int (x + z) :: st) h Q) : E X d LW_law 388 L (.int z :: .int x :: st) h Q := Ev.iadd (by decide +kernel : decode LW_law.2.1 388 = .ok (.iadd, 1)) kk
set_option maxRecDepth 20000 in
theorem LW_law_389 {X : SX} {d : Nat} {L : List Value} {st : List Value} {h : HH} {Q : Int32 → HH → Prop} {i : Int32} (hi : vp_in i X.1) (kk : E X d LW_law 390 L (.int (X.2 i.toNatClampNeg) :: st) h Q) : E X d LW_law 389 L (.int i :: .ref 1003 :: st) h Q := Ev.tScript (by decide +kernel : decode LW_law.2.1 389 = .ok (.iaload, 1)) hi kk
set_option maxRecDepth 20000 in
theorem LW_law_390 {X : SX} {d : Nat} {st : List Value} {h : HH} {Q : Int32 → HH → Prop} {a1 a2 a3 : Value}   (kk : E X d LW_law 391 [.ref 1003, a1, a2, a3] (.ref 1003 :: st) h Q) : E X d LW_law 390 [.ref 1003, a1, a2, a3] st h Q := Ev.aload_n (by decide +kernel : decode LW_law.2.1 390 = .ok (.aload_n 0, 1)) rfl rfl kk
set_option maxRecDepth 20000 in
theorem LW_law_391 {X : SX} {d : Nat} {st : List Value} {h : HH} {Q : Int32 → HH → Prop} {a0 a1 a2 : Value} {x : Int32}  (kk : E X d LW_law 392 [a0, a1, a2, .int x] (.int x :: st) h Q) : E X d LW_law 391 [a0, a1, a2, .int x] st h Q := Ev.iload_n (by decide +kernel : decode LW_law.2.1 391 = .ok (.iload_n 3, 1)) rfl rfl kk
set_option maxRecDepth 20000 in
theorem LW_law_392 {X : SX} {d : Nat} {L : List Value} {st : List Value} {h : HH} {Q : Int32 → HH → Prop}   (kk : E X d LW_law 393 L (.int 3 :: st) h Q) : E X d LW_law 392 L st h Q := Ev.iconst (by decide +kernel : decode LW_law.2.1 392 = .ok (.iconst 3, 1)) (by decide) kk
set_option maxRecDepth 20000 in
theorem LW_law_393 {X : SX} {d : Nat} {L : List Value} {st : List Value} {h : HH} {Q : Int32 → HH → Prop} {x z : Int32}  (kk : E X d LW_law 394 L (.int (x + z) :: st) h Q) : E X d LW_law 393 L (.int z :: .int x :: st) h Q := Ev.iadd (by decide +kernel : decode LW_law.2.1 393 = .ok (.iadd, 1)) kk
set_option maxRecDepth 20000 in
theorem LW_law_394 {X : SX} {d : Nat} {L : List Value} {st : List Value} {h : HH} {Q : Int32 → HH → Prop} {i : Int32} (hi : vp_in i X.1) (kk : E X d LW_law 395 L (.int (X.2 i.toNatClampNeg) :: st) h Q) : E X d LW_law 394 L (.int i :: .ref 1003 :: st) h Q := Ev.tScript (by decide +kernel : decode LW_law.2.1 394 = .ok (.iaload, 1)) hi kk
set_option maxRecDepth 20000 in
theorem LW_law_395 {X : SX} {d : Nat} {st : List Value} {h : HH} {Q : Int32 → HH → Prop} {a1 a2 a3 : Value}   (kk : E X d LW_law 396 [.ref 1003, a1, a2, a3] (.ref 1003 :: st) h Q) : E X d LW_law 395 [.ref 1003, a1, a2, a3] st h Q := Ev.aload_n (by decide +kernel : decode LW_law.2.1 395 = .ok (.aload_n 0, 1)) rfl rfl kk
set_option maxRecDepth 20000 in
theorem LW_law_396 {X : SX} {d : Nat} {st : List Value} {h : HH} {Q : Int32 → HH → Prop} {a0 a1 a2 : Value} {x : Int32}  (kk : E X d LW_law 397 [a0, a1, a2, .int x] (.int x :: st) h Q) : E X d LW_law 396 [a0, a1, a2, .int x] st h Q := Ev.iload_n (by decide +kernel : decode LW_law.2.1 396 = .ok (.iload_n 3, 1)) rfl rfl kk
set_option maxRecDepth 20000 in
theorem LW_law_397 {X : SX} {d : Nat} {L : List Value} {st : List Value} {h : HH} {Q : Int32 → HH → Prop}   (kk : E X d LW_law 398 L (.int 4 :: st) h Q) : E X d LW_law 397 L st h Q := Ev.iconst (by decide +kernel : decode LW_law.2.1 397 = .ok (.iconst 4, 1)) (by decide) kk
set_option maxRecDepth 20000 in
theorem LW_law_398 {X : SX} {d : Nat} {L : List Value} {st : List Value} {h : HH} {Q : Int32 → HH → Prop} {x z : Int32}  (kk : E X d LW_law 399 L (.int (x + z) :: st) h Q) : E X d LW_law 398 L (.int z :: .int x :: st) h Q := Ev.iadd (by decide +kernel : decode LW_law.2.1 398 = .ok (.iadd, 1)) kk
set_option maxRecDepth 20000 in
theorem LW_law_399 {X : SX} {d : Nat} {L : List Value} {st : List Value} {h : HH} {Q : Int32 → HH → Prop} {i : Int32} (hi : vp_in i X.1) (kk : E X d LW_law 400 L (.int (X.2 i.toNatClampNeg) :: st) h Q) : E X d LW_law 399 L (.int i :: .ref 1003 :: st) h Q := Ev.tScript (by decide +kernel : decode LW_law.2.1 399 = .ok (.iaload, 1)) hi kk
set_option maxRecDepth 20000 in
theorem LW_law_400 {X : SX} {d : Nat} {L : List Value} {st : List Value} {h : HH} {Q : Int32 → HH → Prop} {b0 : Int32} {b1 : Int32} {b2 : Int32} {b3 : Int32}   (hc : (st.map (fun v => v.category)).sum ≤ 8) (kk : E X d FM_sign 0 [.ref 57, .int b0, .int b1, .int b2, .int b3] [] h (fun x h' => E X (d + 1) LW_law 403 L (.int x :: st) h' Q)) : E X (d + 1) LW_law 400 L (.int b3 :: .int b2 :: .int b1 :: .int b0 :: .ref 57 :: st) h Q := E.callVi (n := 4) (ix := 40) (args := [.int b0, .int b1, .int b2, .int b3]) (by decide +kernel : decode LW_law.2.1 400 = .ok (.invokevirtual 40, 3)) FM_sign_ok rfl rfl rfl wd_1080 wd_1081 wd_1082 rfl FM_sign_ds (Nat.le_of_ble_eq_true rfl) hc (by decide) kk
set_option maxRecDepth 20000 in
theorem LW_law_403 {X : SX} {d : Nat} {L : List Value} {st : List Value} {h : HH} {Q : Int32 → HH → Prop} {x z : Int32}  (kt : x = z → E X d LW_law 1477 L st h Q) (kf : ¬ x = z → E X d LW_law 406 L st h Q) : E X d LW_law 403 L (.int z :: .int x :: st) h Q := Ev.icmp_eq (tgt := 1477) (by decide +kernel : decode LW_law.2.1 403 = .ok (.if_icmp .eq 1074, 3)) (by decide) kt kf
set_option maxRecDepth 20000 in
theorem LW_law_406 {X : SX} {d : Nat} {L : List Value} {st : List Value} {h : HH} {Q : Int32 → HH → Prop}   (kk : E X d LW_law 407 L (.int 0 :: st) h Q) : E X d LW_law 406 L st h Q := Ev.iconst (by decide +kernel : decode LW_law.2.1 406 = .ok (.iconst 0, 1)) (by decide) kk
set_option maxRecDepth 20000 in
theorem LW_law_407 {X : SX} {d : Nat} {L : List Value} {h : HH} {Q : Int32 → HH → Prop} {x : Int32} (hb : narrow .boolean (.int x) = .int x) (hq : Q x h)  : E X d LW_law 407 L [.int x] h Q := Ev.ireturn (by decide +kernel : decode LW_law.2.1 407 = .ok (.ireturn, 1)) rfl hb ⟨rfl, hq⟩
set_option maxRecDepth 20000 in
theorem LW_law_408 {X : SX} {d : Nat} {st : List Value} {h : HH} {Q : Int32 → HH → Prop} {a0 a2 a3 : Value}   (kk : E X d LW_law 409 [a0, .ref 0, a2, a3] (.ref 0 :: st) h Q) : E X d LW_law 408 [a0, .ref 0, a2, a3] st h Q := Ev.aload_n (by decide +kernel : decode LW_law.2.1 408 = .ok (.aload_n 1, 1)) rfl rfl kk
set_option maxRecDepth 20000 in
theorem LW_law_409 {X : SX} {d : Nat} {st : List Value} {h : HH} {Q : Int32 → HH → Prop} {a1 a2 a3 : Value}   (kk : E X d LW_law 410 [.ref 1003, a1, a2, a3] (.ref 1003 :: st) h Q) : E X d LW_law 409 [.ref 1003, a1, a2, a3] st h Q := Ev.aload_n (by decide +kernel : decode LW_law.2.1 409 = .ok (.aload_n 0, 1)) rfl rfl kk
set_option maxRecDepth 20000 in
theorem LW_law_410 {X : SX} {d : Nat} {st : List Value} {h : HH} {Q : Int32 → HH → Prop} {a0 a1 a2 : Value} {x : Int32}  (kk : E X d LW_law 411 [a0, a1, a2, .int x] (.int x :: st) h Q) : E X d LW_law 410 [a0, a1, a2, .int x] st h Q := Ev.iload_n (by decide +kernel : decode LW_law.2.1 410 = .ok (.iload_n 3, 1)) rfl rfl kk
set_option maxRecDepth 20000 in
theorem LW_law_411 {X : SX} {d : Nat} {L : List Value} {st : List Value} {h : HH} {Q : Int32 → HH → Prop}   (kk : E X d LW_law 412 L (.int 1 :: st) h Q) : E X d LW_law 411 L st h Q := Ev.iconst (by decide +kernel : decode LW_law.2.1 411 = .ok (.iconst 1, 1)) (by decide) kk
set_option maxRecDepth 20000 in
theorem LW_law_412 {X : SX} {d : Nat} {L : List Value} {st : List Value} {h : HH} {Q : Int32 → HH → Prop} {x z : Int32}  (kk : E X d LW_law 413 L (.int (x + z) :: st) h Q) : E X d LW_law 412 L (.int z :: .int x :: st) h Q := Ev.iadd (by decide +kernel : decode LW_law.2.1 412 = .ok (.iadd, 1)) kk
set_option maxRecDepth 20000 in
theorem LW_law_413 {X : SX} {d : Nat} {L : List Value} {st : List Value} {h : HH} {Q : Int32 → HH → Prop} {i : Int32} (hi : vp_in i X.1) (kk : E X d LW_law 414 L (.int (X.2 i.toNatClampNeg) :: st) h Q) : E X d LW_law 413 L (.int i :: .ref 1003 :: st) h Q := Ev.tScript (by decide +kernel : decode LW_law.2.1 413 = .ok (.iaload, 1)) hi kk
set_option maxRecDepth 20000 in
theorem LW_law_414 {X : SX} {d : Nat} {st : List Value} {h : HH} {Q : Int32 → HH → Prop} {a1 a2 a3 : Value}   (kk : E X d LW_law 415 [.ref 1003, a1, a2, a3] (.ref 1003 :: st) h Q) : E X d LW_law 414 [.ref 1003, a1, a2, a3] st h Q := Ev.aload_n (by decide +kernel : decode LW_law.2.1 414 = .ok (.aload_n 0, 1)) rfl rfl kk
set_option maxRecDepth 20000 in
theorem LW_law_415 {X : SX} {d : Nat} {st : List Value} {h : HH} {Q : Int32 → HH → Prop} {a0 a1 a2 : Value} {x : Int32}  (kk : E X d LW_law 416 [a0, a1, a2, .int x] (.int x :: st) h Q) : E X d LW_law 415 [a0, a1, a2, .int x] st h Q := Ev.iload_n (by decide +kernel : decode LW_law.2.1 415 = .ok (.iload_n 3, 1)) rfl rfl kk
set_option maxRecDepth 20000 in
theorem LW_law_416 {X : SX} {d : Nat} {L : List Value} {st : List Value} {h : HH} {Q : Int32 → HH → Prop}   (kk : E X d LW_law 417 L (.int 2 :: st) h Q) : E X d LW_law 416 L st h Q := Ev.iconst (by decide +kernel : decode LW_law.2.1 416 = .ok (.iconst 2, 1)) (by decide) kk
set_option maxRecDepth 20000 in
theorem LW_law_417 {X : SX} {d : Nat} {L : List Value} {st : List Value} {h : HH} {Q : Int32 → HH → Prop} {x z : Int32}  (kk : E X d LW_law 418 L (.int (x + z) :: st) h Q) : E X d LW_law 417 L (.int z :: .int x :: st) h Q := Ev.iadd (by decide +kernel : decode LW_law.2.1 417 = .ok (.iadd, 1)) kk
set_option maxRecDepth 20000 in
theorem LW_law_418 {X : SX} {d : Nat} {L : List Value} {st : List Value} {h : HH} {Q : Int32 → HH → Prop} {i : Int32} (hi : vp_in i X.1) (kk : E X d LW_law 419 L (.int (X.2 i.toNatClampNeg) :: st) h Q) : E X d LW_law 418 L (.int i :: .ref 1003 :: st) h Q := Ev.tScript (by decide +kernel : decode LW_law.2.1 418 = .ok (.iaload, 1)) hi kk
set_option maxRecDepth 20000 in
theorem LW_law_419 {X : SX} {d : Nat} {st : List Value} {h : HH} {Q : Int32 → HH → Prop} {a1 a2 a3 : Value}   (kk : E X d LW_law 420 [.ref 1003, a1, a2, a3] (.ref 1003 :: st) h Q) : E X d LW_law 419 [.ref 1003, a1, a2, a3] st h Q := Ev.aload_n (by decide +kernel : decode LW_law.2.1 419 = .ok (.aload_n 0, 1)) rfl rfl kk
set_option maxRecDepth 20000 in
theorem LW_law_420 {X : SX} {d : Nat} {st : List Value} {h : HH} {Q : Int32 → HH → Prop} {a0 a1 a2 : Value} {x : Int32}  (kk : E X d LW_law 421 [a0, a1, a2, .int x] (.int x :: st) h Q) : E X d LW_law 420 [a0, a1, a2, .int x] st h Q := Ev.iload_n (by decide +kernel : decode LW_law.2.1 420 = .ok (.iload_n 3, 1)) rfl rfl kk
set_option maxRecDepth 20000 in
theorem LW_law_421 {X : SX} {d : Nat} {L : List Value} {st : List Value} {h : HH} {Q : Int32 → HH → Prop}   (kk : E X d LW_law 422 L (.int 3 :: st) h Q) : E X d LW_law 421 L st h Q := Ev.iconst (by decide +kernel : decode LW_law.2.1 421 = .ok (.iconst 3, 1)) (by decide) kk
set_option maxRecDepth 20000 in
theorem LW_law_422 {X : SX} {d : Nat} {L : List Value} {st : List Value} {h : HH} {Q : Int32 → HH → Prop} {x z : Int32}  (kk : E X d LW_law 423 L (.int (x + z) :: st) h Q) : E X d LW_law 422 L (.int z :: .int x :: st) h Q := Ev.iadd (by decide +kernel : decode LW_law.2.1 422 = .ok (.iadd, 1)) kk
set_option maxRecDepth 20000 in
theorem LW_law_423 {X : SX} {d : Nat} {L : List Value} {st : List Value} {h : HH} {Q : Int32 → HH → Prop} {i : Int32} (hi : vp_in i X.1) (kk : E X d LW_law 424 L (.int (X.2 i.toNatClampNeg) :: st) h Q) : E X d LW_law 423 L (.int i :: .ref 1003 :: st) h Q := Ev.tScript (by decide +kernel : decode LW_law.2.1 423 = .ok (.iaload, 1)) hi kk
set_option maxRecDepth 20000 in
theorem LW_law_424 {X : SX} {d : Nat} {st : List Value} {h : HH} {Q : Int32 → HH → Prop} {a1 a2 a3 : Value}   (kk : E X d LW_law 425 [.ref 1003, a1, a2, a3] (.ref 1003 :: st) h Q) : E X d LW_law 424 [.ref 1003, a1, a2, a3] st h Q := Ev.aload_n (by decide +kernel : decode LW_law.2.1 424 = .ok (.aload_n 0, 1)) rfl rfl kk
set_option maxRecDepth 20000 in
theorem LW_law_425 {X : SX} {d : Nat} {st : List Value} {h : HH} {Q : Int32 → HH → Prop} {a0 a1 a2 : Value} {x : Int32}  (kk : E X d LW_law 426 [a0, a1, a2, .int x] (.int x :: st) h Q) : E X d LW_law 425 [a0, a1, a2, .int x] st h Q := Ev.iload_n (by decide +kernel : decode LW_law.2.1 425 = .ok (.iload_n 3, 1)) rfl rfl kk
set_option maxRecDepth 20000 in
theorem LW_law_426 {X : SX} {d : Nat} {L : List Value} {st : List Value} {h : HH} {Q : Int32 → HH → Prop}   (kk : E X d LW_law 427 L (.int 4 :: st) h Q) : E X d LW_law 426 L st h Q := Ev.iconst (by decide +kernel : decode LW_law.2.1 426 = .ok (.iconst 4, 1)) (by decide) kk
set_option maxRecDepth 20000 in
theorem LW_law_427 {X : SX} {d : Nat} {L : List Value} {st : List Value} {h : HH} {Q : Int32 → HH → Prop} {x z : Int32}  (kk : E X d LW_law 428 L (.int (x + z) :: st) h Q) : E X d LW_law 427 L (.int z :: .int x :: st) h Q := Ev.iadd (by decide +kernel : decode LW_law.2.1 427 = .ok (.iadd, 1)) kk
set_option maxRecDepth 20000 in
theorem LW_law_428 {X : SX} {d : Nat} {L : List Value} {st : List Value} {h : HH} {Q : Int32 → HH → Prop} {i : Int32} (hi : vp_in i X.1) (kk : E X d LW_law 429 L (.int (X.2 i.toNatClampNeg) :: st) h Q) : E X d LW_law 428 L (.int i :: .ref 1003 :: st) h Q := Ev.tScript (by decide +kernel : decode LW_law.2.1 428 = .ok (.iaload, 1)) hi kk
set_option maxRecDepth 20000 in
theorem LW_law_429 {X : SX} {d : Nat} {L : List Value} {st : List Value} {h : HH} {Q : Int32 → HH → Prop} {x : Int32}  (kt : x = 0 → E X d LW_law 436 L st h Q) (kf : ¬ x = 0 → E X d LW_law 432 L st h Q) : E X d LW_law 429 L (.int x :: st) h Q := Ev.if_eq (tgt := 436) (by decide +kernel : decode LW_law.2.1 429 = .ok (.ifCond .eq 7, 3)) (by decide) kt kf
set_option maxRecDepth 20000 in
theorem LW_law_432 {X : SX} {d : Nat} {L : List Value} {st : List Value} {h : HH} {Q : Int32 → HH → Prop}   (kk : E X d LW_law 433 L (.int 1 :: st) h Q) : E X d LW_law 432 L st h Q := Ev.iconst (by decide +kernel : decode LW_law.2.1 432 = .ok (.iconst 1, 1)) (by decide) kk
set_option maxRecDepth 20000 in
theorem LW_law_433 {X : SX} {d : Nat} {L : List Value} {st : List Value} {h : HH} {Q : Int32 → HH → Prop}   (kk : E X d LW_law 437 L st h Q) : E X d LW_law 433 L st h Q := Ev.goto (tgt := 437) (by decide +kernel : decode LW_law.2.1 433 = .ok (.goto 4, 3)) (by decide) kk
set_option maxRecDepth 20000 in
theorem LW_law_436 {X : SX} {d : Nat} {L : List Value} {st : List Value} {h : HH} {Q : Int32 → HH → Prop}   (kk : E X d LW_law 437 L (.int 0 :: st) h Q) : E X d LW_law 436 L st h Q := Ev.iconst (by decide +kernel : decode LW_law.2.1 436 = .ok (.iconst 0, 1)) (by decide) kk
set_option maxRecDepth 20000 in
theorem LW_law_437 {X : SX} {d : Nat} {st : List Value} {h : HH} {Q : Int32 → HH → Prop} {a1 a2 a3 : Value}   (kk : E X d LW_law 438 [.ref 1003, a1, a2, a3] (.ref 1003 :: st) h Q) : E X d LW_law 437 [.ref 1003, a1, a2, a3] st h Q := Ev.aload_n (by decide +kernel : decode LW_law.2.1 437 = .ok (.aload_n 0, 1)) rfl rfl kk
set_option maxRecDepth 20000 in
theorem LW_law_438 {X : SX} {d : Nat} {st : List Value} {h : HH} {Q : Int32 → HH → Prop} {a0 a1 a2 : Value} {x : Int32}  (kk : E X d LW_law 439 [a0, a1, a2, .int x] (.int x :: st) h Q) : E X d LW_law 438 [a0, a1, a2, .int x] st h Q := Ev.iload_n (by decide +kernel : decode LW_law.2.1 438 = .ok (.iload_n 3, 1)) rfl rfl kk
set_option maxRecDepth 20000 in
theorem LW_law_439 {X : SX} {d : Nat} {L : List Value} {st : List Value} {h : HH} {Q : Int32 → HH → Prop}   (kk : E X d LW_law 440 L (.int 5 :: st) h Q) : E X d LW_law 439 L st h Q := Ev.iconst (by decide +kernel : decode LW_law.2.1 439 = .ok (.iconst 5, 1)) (by decide) kk
set_option maxRecDepth 20000 in
theorem LW_law_440 {X : SX} {d : Nat} {L : List Value} {st : List Value} {h : HH} {Q : Int32 → HH → Prop} {x z : Int32}  (kk : E X d LW_law 441 L (.int (x + z) :: st) h Q) : E X d LW_law 440 L (.int z :: .int x :: st) h Q := Ev.iadd (by decide +kernel : decode LW_law.2.1 440 = .ok (.iadd, 1)) kk
set_option maxRecDepth 20000 in
theorem LW_law_441 {X : SX} {d : Nat} {L : List Value} {st : List Value} {h : HH} {Q : Int32 → HH → Prop} {i : Int32} (hi : vp_in i X.1) (kk : E X d LW_law 442 L (.int (X.2 i.toNatClampNeg) :: st) h Q) : E X d LW_law 441 L (.int i :: .ref 1003 :: st) h Q := Ev.tScript (by decide +kernel : decode LW_law.2.1 441 = .ok (.iaload, 1)) hi kk
set_option maxRecDepth 20000 in
theorem LW_law_442 {X : SX} {d : Nat} {L : List Value} {st : List Value} {h : HH} {Q : Int32 → HH → Prop} {b0 : Int32} {b1 : Int32} {b2 : Int32} {b3 : Int32} {b4 : Int32}   (hc : (st.map (fun v => v.category)).sum ≤ 8) (kk : E X d FC_line 0 [.ref 0, .int b0, .int b1, .int b2, .int b3, .int b4, U0, U0] [] h (fun x h' => E X (d + 1) LW_law 445 L (.int x :: st) h' Q)) : E X (d + 1) LW_law 442 L (.int b4 :: .int b3 :: .int b2 :: .int b1 :: .int b0 :: .ref 0 :: st) h Q := E.callVi (n := 5) (ix := 41) (args := [.int b0, .int b1, .int b2, .int b3, .int b4]) (by decide +kernel : decode LW_law.2.1 442 = .ok (.invokevirtual 41, 3)) FC_line_ok rfl rfl rfl wd_410 wd_411 wd_412 rfl FC_line_ds (Nat.le_of_ble_eq_true rfl) hc (by decide) kk
set_option maxRecDepth 20000 in
theorem LW_law_445 {X : SX} {d : Nat} {st : List Value} {h : HH} {Q : Int32 → HH → Prop} {a0 a1 a3 : Value}   (kk : E X d LW_law 446 [a0, a1, .ref 57, a3] (.ref 57 :: st) h Q) : E X d LW_law 445 [a0, a1, .ref 57, a3] st h Q := Ev.aload_n (by decide +kernel : decode LW_law.2.1 445 = .ok (.aload_n 2, 1)) rfl rfl kk
set_option maxRecDepth 20000 in
theorem LW_law_446 {X : SX} {d : Nat} {st : List Value} {h : HH} {Q : Int32 → HH → Prop} {a1 a2 a3 : Value}   (kk : E X d LW_law 447 [.ref 1003, a1, a2, a3] (.ref 1003 :: st) h Q) : E X d LW_law 446 [.ref 1003, a1, a2, a3] st h Q := Ev.aload_n (by decide +kernel : decode LW_law.2.1 446 = .ok (.aload_n 0, 1)) rfl rfl kk
set_option maxRecDepth 20000 in
theorem LW_law_447 {X : SX} {d : Nat} {st : List Value} {h : HH} {Q : Int32 → HH → Prop} {a0 a1 a2 : Value} {x : Int32}  (kk : E X d LW_law 448 [a0, a1, a2, .int x] (.int x :: st) h Q) : E X d LW_law 447 [a0, a1, a2, .int x] st h Q := Ev.iload_n (by decide +kernel : decode LW_law.2.1 447 = .ok (.iload_n 3, 1)) rfl rfl kk
set_option maxRecDepth 20000 in
theorem LW_law_448 {X : SX} {d : Nat} {L : List Value} {st : List Value} {h : HH} {Q : Int32 → HH → Prop}   (kk : E X d LW_law 449 L (.int 1 :: st) h Q) : E X d LW_law 448 L st h Q := Ev.iconst (by decide +kernel : decode LW_law.2.1 448 = .ok (.iconst 1, 1)) (by decide) kk
set_option maxRecDepth 20000 in
theorem LW_law_449 {X : SX} {d : Nat} {L : List Value} {st : List Value} {h : HH} {Q : Int32 → HH → Prop} {x z : Int32}  (kk : E X d LW_law 450 L (.int (x + z) :: st) h Q) : E X d LW_law 449 L (.int z :: .int x :: st) h Q := Ev.iadd (by decide +kernel : decode LW_law.2.1 449 = .ok (.iadd, 1)) kk
set_option maxRecDepth 20000 in
theorem LW_law_450 {X : SX} {d : Nat} {L : List Value} {st : List Value} {h : HH} {Q : Int32 → HH → Prop} {i : Int32} (hi : vp_in i X.1) (kk : E X d LW_law 451 L (.int (X.2 i.toNatClampNeg) :: st) h Q) : E X d LW_law 450 L (.int i :: .ref 1003 :: st) h Q := Ev.tScript (by decide +kernel : decode LW_law.2.1 450 = .ok (.iaload, 1)) hi kk
set_option maxRecDepth 20000 in
theorem LW_law_451 {X : SX} {d : Nat} {st : List Value} {h : HH} {Q : Int32 → HH → Prop} {a1 a2 a3 : Value}   (kk : E X d LW_law 452 [.ref 1003, a1, a2, a3] (.ref 1003 :: st) h Q) : E X d LW_law 451 [.ref 1003, a1, a2, a3] st h Q := Ev.aload_n (by decide +kernel : decode LW_law.2.1 451 = .ok (.aload_n 0, 1)) rfl rfl kk
set_option maxRecDepth 20000 in
theorem LW_law_452 {X : SX} {d : Nat} {st : List Value} {h : HH} {Q : Int32 → HH → Prop} {a0 a1 a2 : Value} {x : Int32}  (kk : E X d LW_law 453 [a0, a1, a2, .int x] (.int x :: st) h Q) : E X d LW_law 452 [a0, a1, a2, .int x] st h Q := Ev.iload_n (by decide +kernel : decode LW_law.2.1 452 = .ok (.iload_n 3, 1)) rfl rfl kk
set_option maxRecDepth 20000 in
theorem LW_law_453 {X : SX} {d : Nat} {L : List Value} {st : List Value} {h : HH} {Q : Int32 → HH → Prop}   (kk : E X d LW_law 454 L (.int 2 :: st) h Q) : E X d LW_law 453 L st h Q := Ev.iconst (by decide +kernel : decode LW_law.2.1 453 = .ok (.iconst 2, 1)) (by decide) kk
set_option maxRecDepth 20000 in
theorem LW_law_454 {X : SX} {d : Nat} {L : List Value} {st : List Value} {h : HH} {Q : Int32 → HH → Prop} {x z : Int32}  (kk : E X d LW_law 455 L (.int (x + z) :: st) h Q) : E X d LW_law 454 L (.int z :: .int x :: st) h Q := Ev.iadd (by decide +kernel : decode LW_law.2.1 454 = .ok (.iadd, 1)) kk
set_option maxRecDepth 20000 in
theorem LW_law_455 {X : SX} {d : Nat} {L : List Value} {st : List Value} {h : HH} {Q : Int32 → HH → Prop} {i : Int32} (hi : vp_in i X.1) (kk : E X d LW_law 456 L (.int (X.2 i.toNatClampNeg) :: st) h Q) : E X d LW_law 455 L (.int i :: .ref 1003 :: st) h Q := Ev.tScript (by decide +kernel : decode LW_law.2.1 455 = .ok (.iaload, 1)) hi kk
set_option maxRecDepth 20000 in
theorem LW_law_456 {X : SX} {d : Nat} {st : List Value} {h : HH} {Q : Int32 → HH → Prop} {a1 a2 a3 : Value}   (kk : E X d LW_law 457 [.ref 1003, a1, a2, a3] (.ref 1003 :: st) h Q) : E X d LW_law 456 [.ref 1003, a1, a2, a3] st h Q := Ev.aload_n (by decide +kernel : decode LW_law.2.1 456 = .ok (.aload_n 0, 1)) rfl rfl kk
set_option maxRecDepth 20000 in
theorem LW_law_457 {X : SX} {d : Nat} {st : List Value} {h : HH} {Q : Int32 → HH → Prop} {a0 a1 a2 : Value} {x : Int32}  (kk : E X d LW_law 458 [a0, a1, a2, .int x] (.int x :: st) h Q) : E X d LW_law 457 [a0, a1, a2, .int x] st h Q := Ev.iload_n (by decide +kernel : decode LW_law.2.1 457 = .ok (.iload_n 3, 1)) rfl rfl kk
set_option maxRecDepth 20000 in
theorem LW_law_458 {X : SX} {d : Nat} {L : List Value} {st : List Value} {h : HH} {Q : Int32 → HH → Prop}   (kk : E X d LW_law 459 L (.int 3 :: st) h Q) : E X d LW_law 458 L st h Q := Ev.iconst (by decide +kernel : decode LW_law.2.1 458 = .ok (.iconst 3, 1)) (by decide) kk
set_option maxRecDepth 20000 in
theorem LW_law_459 {X : SX} {d : Nat} {L : List Value} {st : List Value} {h : HH} {Q : Int32 → HH → Prop} {x z : Int32}  (kk : E X d LW_law 460 L (.int (x + z) :: st) h Q) : E X d LW_law 459 L (.int z :: .int x :: st) h Q := Ev.iadd (by decide +kernel : decode LW_law.2.1 459 = .ok (.iadd, 1)) kk
set_option maxRecDepth 20000 in
theorem LW_law_460 {X : SX} {d : Nat} {L : List Value} {st : List Value} {h : HH} {Q : Int32 → HH → Prop} {i : Int32} (hi : vp_in i X.1) (kk : E X d LW_law 461 L (.int (X.2 i.toNatClampNeg) :: st) h Q) : E X d LW_law 460 L (.int i :: .ref 1003 :: st) h Q := Ev.tScript (by decide +kernel : decode LW_law.2.1 460 = .ok (.iaload, 1)) hi kk
set_option maxRecDepth 20000 in
theorem LW_law_461 {X : SX} {d : Nat} {st : List Value} {h : HH} {Q : Int32 → HH → Prop} {a1 a2 a3 : Value}   (kk : E X d LW_law 462 [.ref 1003, a1, a2, a3] (.ref 1003 :: st) h Q) : E X d LW_law 461 [.ref 1003, a1, a2, a3] st h Q := Ev.aload_n (by decide +kernel : decode LW_law.2.1 461 = .ok (.aload_n 0, 1)) rfl rfl kk
set_option maxRecDepth 20000 in
theorem LW_law_462 {X : SX} {d : Nat} {st : List Value} {h : HH} {Q : Int32 → HH → Prop} {a0 a1 a2 : Value} {x : Int32}  (kk : E X d LW_law 463 [a0, a1, a2, .int x] (.int x :: st) h Q) : E X d LW_law 462 [a0, a1, a2, .int x] st h Q := Ev.iload_n (by decide +kernel : decode LW_law.2.1 462 = .ok (.iload_n 3, 1)) rfl rfl kk
set_option maxRecDepth 20000 in
theorem LW_law_463 {X : SX} {d : Nat} {L : List Value} {st : List Value} {h : HH} {Q : Int32 → HH → Prop}   (kk : E X d LW_law 464 L (.int 4 :: st) h Q) : E X d LW_law 463 L st h Q := Ev.iconst (by decide +kernel : decode LW_law.2.1 463 = .ok (.iconst 4, 1)) (by decide) kk
set_option maxRecDepth 20000 in
theorem LW_law_464 {X : SX} {d : Nat} {L : List Value} {st : List Value} {h : HH} {Q : Int32 → HH → Prop} {x z : Int32}  (kk : E X d LW_law 465 L (.int (x + z) :: st) h Q) : E X d LW_law 464 L (.int z :: .int x :: st) h Q := Ev.iadd (by decide +kernel : decode LW_law.2.1 464 = .ok (.iadd, 1)) kk
set_option maxRecDepth 20000 in
theorem LW_law_465 {X : SX} {d : Nat} {L : List Value} {st : List Value} {h : HH} {Q : Int32 → HH → Prop} {i : Int32} (hi : vp_in i X.1) (kk : E X d LW_law 466 L (.int (X.2 i.toNatClampNeg) :: st) h Q) : E X d LW_law 465 L (.int i :: .ref 1003 :: st) h Q := Ev.tScript (by decide +kernel : decode LW_law.2.1 465 = .ok (.iaload, 1)) hi kk
set_option maxRecDepth 20000 in
theorem LW_law_466 {X : SX} {d : Nat} {L : List Value} {st : List Value} {h : HH} {Q : Int32 → HH → Prop} {x : Int32}  (kt : x = 0 → E X d LW_law 473 L st h Q) (kf : ¬ x = 0 → E X d LW_law 469 L st h Q) : E X d LW_law 466 L (.int x :: st) h Q := Ev.if_eq (tgt := 473) (by decide +kernel : decode LW_law.2.1 466 = .ok (.ifCond .eq 7, 3)) (by decide) kt kf
set_option maxRecDepth 20000 in
theorem LW_law_469 {X : SX} {d : Nat} {L : List Value} {st : List Value} {h : HH} {Q : Int32 → HH → Prop}   (kk : E X d LW_law 470 L (.int 1 :: st) h Q) : E X d LW_law 469 L st h Q := Ev.iconst (by decide +kernel : decode LW_law.2.1 469 = .ok (.iconst 1, 1)) (by decide) kk
set_option maxRecDepth 20000 in
theorem LW_law_470 {X : SX} {d : Nat} {L : List Value} {st : List Value} {h : HH} {Q : Int32 → HH → Prop}   (kk : E X d LW_law 474 L st h Q) : E X d LW_law 470 L st h Q := Ev.goto (tgt := 474) (by decide +kernel : decode LW_law.2.1 470 = .ok (.goto 4, 3)) (by decide) kk
set_option maxRecDepth 20000 in
theorem LW_law_473 {X : SX} {d : Nat} {L : List Value} {st : List Value} {h : HH} {Q : Int32 → HH → Prop}   (kk : E X d LW_law 474 L (.int 0 :: st) h Q) : E X d LW_law 473 L st h Q := Ev.iconst (by decide +kernel : decode LW_law.2.1 473 = .ok (.iconst 0, 1)) (by decide) kk
set_option maxRecDepth 20000 in
theorem LW_law_474 {X : SX} {d : Nat} {st : List Value} {h : HH} {Q : Int32 → HH → Prop} {a1 a2 a3 : Value}   (kk : E X d LW_law 475 [.ref 1003, a1, a2, a3] (.ref 1003 :: st) h Q) : E X d LW_law 474 [.ref 1003, a1, a2, a3] st h Q := Ev.aload_n (by decide +kernel : decode LW_law.2.1 474 = .ok (.aload_n 0, 1)) rfl rfl kk
set_option maxRecDepth 20000 in
theorem LW_law_475 {X : SX} {d : Nat} {st : List Value} {h : HH} {Q : Int32 → HH → Prop} {a0 a1 a2 : Value} {x : Int32}  (kk : E X d LW_law 476 [a0, a1, a2, .int x] (.int x :: st) h Q) : E X d LW_law 475 [a0, a1, a2, .int x] st h Q := Ev.iload_n (by decide +kernel : decode LW_law.2.1 475 = .ok (.iload_n 3, 1)) rfl rfl kk
set_option maxRecDepth 20000 in
theorem LW_law_476 {X : SX} {d : Nat} {L : List Value} {st : List Value} {h : HH} {Q : Int32 → HH → Prop}   (kk : E X d LW_law 477 L (.int 5 :: st) h Q) : E X d LW_law 476 L st h Q := Ev.iconst (by decide +kernel : decode LW_law.2.1 476 = .ok (.iconst 5, 1)) (by decide) kk
set_option maxRecDepth 20000 in
theorem LW_law_477 {X : SX} {d : Nat} {L : List Value} {st : List Value} {h : HH} {Q : Int32 → HH → Prop} {x z : Int32}  (kk : E X d LW_law 478 L (.int (x + z) :: st) h Q) : E X d LW_law 477 L (.int z :: .int x :: st) h Q := Ev.iadd (by decide +kernel : decode LW_law.2.1 477 = .ok (.iadd, 1)) kk
set_option maxRecDepth 20000 in
theorem LW_law_478 {X : SX} {d : Nat} {L : List Value} {st : List Value} {h : HH} {Q : Int32 → HH → Prop} {i : Int32} (hi : vp_in i X.1) (kk : E X d LW_law 479 L (.int (X.2 i.toNatClampNeg) :: st) h Q) : E X d LW_law 478 L (.int i :: .ref 1003 :: st) h Q := Ev.tScript (by decide +kernel : decode LW_law.2.1 478 = .ok (.iaload, 1)) hi kk
set_option maxRecDepth 20000 in
theorem LW_law_479 {X : SX} {d : Nat} {L : List Value} {st : List Value} {h : HH} {Q : Int32 → HH → Prop} {b0 : Int32} {b1 : Int32} {b2 : Int32} {b3 : Int32} {b4 : Int32}   (hc : (st.map (fun v => v.category)).sum ≤ 8) (kk : E X d FM_line 0 [.ref 57, .int b0, .int b1, .int b2, .int b3, .int b4, U0] [] h (fun x h' => E X (d + 1) LW_law 482 L (.int x :: st) h' Q)) : E X (d + 1) LW_law 479 L (.int b4 :: .int b3 :: .int b2 :: .int b1 :: .int b0 :: .ref 57 :: st) h Q := E.callVi (n := 5) (ix := 45) (args := [.int b0, .int b1, .int b2, .int b3, .int b4]) (by decide +kernel : decode LW_law.2.1 479 = .ok (.invokevirtual 45, 3)) FM_line_ok rfl rfl rfl wd_1088 wd_1089 wd_1090 rfl FM_line_ds (Nat.le_of_ble_eq_true rfl) hc (by decide) kk
set_option maxRecDepth 20000 in
theorem LW_law_482 {X : SX} {d : Nat} {L : List Value} {st : List Value} {h : HH} {Q : Int32 → HH → Prop} {x z : Int32}  (kt : x = z → E X d LW_law 1477 L st h Q) (kf : ¬ x = z → E X d LW_law 485 L st h Q) : E X d LW_law 482 L (.int z :: .int x :: st) h Q := Ev.icmp_eq (tgt := 1477) (by decide +kernel : decode LW_law.2.1 482 = .ok (.if_icmp .eq 995, 3)) (by decide) kt kf
set_option maxRecDepth 20000 in
theorem LW_law_485 {X : SX} {d : Nat} {L : List Value} {st : List Value} {h : HH} {Q : Int32 → HH → Prop}   (kk : E X d LW_law 486 L (.int 0 :: st) h Q) : E X d LW_law 485 L st h Q := Ev.iconst (by decide +kernel : decode LW_law.2.1 485 = .ok (.iconst 0, 1)) (by decide) kk
set_option maxRecDepth 20000 in
theorem LW_law_486 {X : SX} {d : Nat} {L : List Value} {h : HH} {Q : Int32 → HH → Prop} {x : Int32} (hb : narrow .boolean (.int x) = .int x) (hq : Q x h)  : E X d LW_law 486 L [.int x] h Q := Ev.ireturn (by decide +kernel : decode LW_law.2.1 486 = .ok (.ireturn, 1)) rfl hb ⟨rfl, hq⟩
set_option maxRecDepth 20000 in
theorem LW_law_487 {X : SX} {d : Nat} {st : List Value} {h : HH} {Q : Int32 → HH → Prop} {a0 a2 a3 : Value}   (kk : E X d LW_law 488 [a0, .ref 0, a2, a3] (.ref 0 :: st) h Q) : E X d LW_law 487 [a0, .ref 0, a2, a3] st h Q := Ev.aload_n (by decide +kernel : decode LW_law.2.1 487 = .ok (.aload_n 1, 1)) rfl rfl kk
set_option maxRecDepth 20000 in
theorem LW_law_488 {X : SX} {d : Nat} {st : List Value} {h : HH} {Q : Int32 → HH → Prop} {a1 a2 a3 : Value}   (kk : E X d LW_law 489 [.ref 1003, a1, a2, a3] (.ref 1003 :: st) h Q) : E X d LW_law 488 [.ref 1003, a1, a2, a3] st h Q := Ev.aload_n (by decide +kernel : decode LW_law.2.1 488 = .ok (.aload_n 0, 1)) rfl rfl kk
set_option maxRecDepth 20000 in
theorem LW_law_489 {X : SX} {d : Nat} {st : List Value} {h : HH} {Q : Int32 → HH → Prop} {a0 a1 a2 : Value} {x : Int32}  (kk : E X d LW_law 490 [a0, a1, a2, .int x] (.int x :: st) h Q) : E X d LW_law 489 [a0, a1, a2, .int x] st h Q := Ev.iload_n (by decide +kernel : decode LW_law.2.1 489 = .ok (.iload_n 3, 1)) rfl rfl kk
set_option maxRecDepth 20000 in
theorem LW_law_490 {X : SX} {d : Nat} {L : List Value} {st : List Value} {h : HH} {Q : Int32 → HH → Prop}   (kk : E X d LW_law 491 L (.int 1 :: st) h Q) : E X d LW_law 490 L st h Q := Ev.iconst (by decide +kernel : decode LW_law.2.1 490 = .ok (.iconst 1, 1)) (by decide) kk
set_option maxRecDepth 20000 in
theorem LW_law_491 {X : SX} {d : Nat} {L : List Value} {st : List Value} {h : HH} {Q : Int32 → HH → Prop} {x z : Int32}  (kk : E X d LW_law 492 L (.int (x + z) :: st) h Q) : E X d LW_law 491 L (.int z :: .int x :: st) h Q := Ev.iadd (by decide +kernel : decode LW_law.2.1 491 = .ok (.iadd, 1)) kk
set_option maxRecDepth 20000 in
theorem LW_law_492 {X : SX} {d : Nat} {L : List Value} {st : List Value} {h : HH} {Q : Int32 → HH → Prop} {i : Int32} (hi : vp_in i X.1) (kk : E X d LW_law 493 L (.int (X.2 i.toNatClampNeg) :: st) h Q) : E X d LW_law 492 L (.int i :: .ref 1003 :: st) h Q := Ev.tScript (by decide +kernel : decode LW_law.2.1 492 = .ok (.iaload, 1)) hi kk
set_option maxRecDepth 20000 in
theorem LW_law_493 {X : SX} {d : Nat} {L : List Value} {st : List Value} {h : HH} {Q : Int32 → HH → Prop} {b0 : Int32}   (hc : (st.map (fun v => v.category)).sum ≤ 8) (kk : E X d FC_end 0 [.ref 0, .int b0] [] h (fun x h' => E X (d + 1) LW_law 496 L (.int x :: st) h' Q)) : E X (d + 1) LW_law 493 L (.int b0 :: .ref 0 :: st) h Q := E.callVi (n := 1) (ix := 46) (args := [.int b0]) (by decide +kernel : decode LW_law.2.1 493 = .ok (.invokevirtual 46, 3)) FC_end_ok rfl rfl rfl wd_437 wd_438 wd_439 rfl FC_end_ds (Nat.le_of_ble_eq_true rfl) hc (by decide) kk
set_option maxRecDepth 20000 in
theorem LW_law_496 {X : SX} {d : Nat} {st : List Value} {h : HH} {Q : Int32 → HH → Prop} {a0 a1 a3 : Value}   (kk : E X d LW_law 497 [a0, a1, .ref 57, a3] (.ref 57 :: st) h Q) : E X d LW_law 496 [a0, a1, .ref 57, a3] st h Q := Ev.aload_n (by decide +kernel : decode LW_law.2.1 496 = .ok (.aload_n 2, 1)) rfl rfl kk
set_option maxRecDepth 20000 in
theorem LW_law_497 {X : SX} {d : Nat} {st : List Value} {h : HH} {Q : Int32 → HH → Prop} {a1 a2 a3 : Value}   (kk : E X d LW_law 498 [.ref 1003, a1, a2, a3] (.ref 1003 :: st) h Q) : E X d LW_law 497 [.ref 1003, a1, a2, a3] st h Q := Ev.aload_n (by decide +kernel : decode LW_law.2.1 497 = .ok (.aload_n 0, 1)) rfl rfl kk
set_option maxRecDepth 20000 in
theorem LW_law_498 {X : SX} {d : Nat} {st : List Value} {h : HH} {Q : Int32 → HH → Prop} {a0 a1 a2 : Value} {x : Int32}  (kk : E X d LW_law 499 [a0, a1, a2, .int x] (.int x :: st) h Q) : E X d LW_law 498 [a0, a1, a2, .int x] st h Q := Ev.iload_n (by decide +kernel : decode LW_law.2.1 498 = .ok (.iload_n 3, 1)) rfl rfl kk
set_option maxRecDepth 20000 in
theorem LW_law_499 {X : SX} {d : Nat} {L : List Value} {st : List Value} {h : HH} {Q : Int32 → HH → Prop}   (kk : E X d LW_law 500 L (.int 1 :: st) h Q) : E X d LW_law 499 L st h Q := Ev.iconst (by decide +kernel : decode LW_law.2.1 499 = .ok (.iconst 1, 1)) (by decide) kk
set_option maxRecDepth 20000 in
theorem LW_law_500 {X : SX} {d : Nat} {L : List Value} {st : List Value} {h : HH} {Q : Int32 → HH → Prop} {x z : Int32}  (kk : E X d LW_law 501 L (.int (x + z) :: st) h Q) : E X d LW_law 500 L (.int z :: .int x :: st) h Q := Ev.iadd (by decide +kernel : decode LW_law.2.1 500 = .ok (.iadd, 1)) kk
set_option maxRecDepth 20000 in
theorem LW_law_501 {X : SX} {d : Nat} {L : List Value} {st : List Value} {h : HH} {Q : Int32 → HH → Prop} {i : Int32} (hi : vp_in i X.1) (kk : E X d LW_law 502 L (.int (X.2 i.toNatClampNeg) :: st) h Q) : E X d LW_law 501 L (.int i :: .ref 1003 :: st) h Q := Ev.tScript (by decide +kernel : decode LW_law.2.1 501 = .ok (.iaload, 1)) hi kk
set_option maxRecDepth 20000 in
theorem LW_law_502 {X : SX} {d : Nat} {L : List Value} {st : List Value} {h : HH} {Q : Int32 → HH → Prop} {b0 : Int32}   (hc : (st.map (fun v => v.category)).sum ≤ 8) (kk : E X d FM_end 0 [.ref 57, .int b0] [] h (fun x h' => E X (d + 1) LW_law 505 L (.int x :: st) h' Q)) : E X (d + 1) LW_law 502 L (.int b0 :: .ref 57 :: st) h Q := E.callVi (n := 1) (ix := 49) (args := [.int b0]) (by decide +kernel : decode LW_law.2.1 502 = .ok (.invokevirtual 49, 3)) FM_end_ok rfl rfl rfl wd_1092 wd_1093 wd_1094 rfl FM_end_ds (Nat.le_of_ble_eq_true rfl) hc (by decide) kk
set_option maxRecDepth 20000 in
theorem LW_law_505 {X : SX} {d : Nat} {L : List Value} {st : List Value} {h : HH} {Q : Int32 → HH → Prop} {x z : Int32}  (kt : x = z → E X d LW_law 1477 L st h Q) (kf : ¬ x = z → E X d LW_law 508 L st h Q) : E X d LW_law 505 L (.int z :: .int x :: st) h Q := Ev.icmp_eq (tgt := 1477) (by decide +kernel : decode LW_law.2.1 505 = .ok (.if_icmp .eq 972, 3)) (by decide) kt kf
set_option maxRecDepth 20000 in
theorem LW_law_508 {X : SX} {d : Nat} {L : List Value} {st : List Value} {h : HH} {Q : Int32 → HH → Prop}   (kk : E X d LW_law 509 L (.int 0 :: st) h Q) : E X d LW_law 508 L st h Q := Ev.iconst (by decide +kernel : decode LW_law.2.1 508 = .ok (.iconst 0, 1)) (by decide) kk
set_option maxRecDepth 20000 in
theorem LW_law_509 {X : SX} {d : Nat} {L : List Value} {h : HH} {Q : Int32 → HH → Prop} {x : Int32} (hb : narrow .boolean (.int x) = .int x) (hq : Q x h)  : E X d LW_law 509 L [.int x] h Q := Ev.ireturn (by decide +kernel : decode LW_law.2.1 509 = .ok (.ireturn, 1)) rfl hb ⟨rfl, hq⟩
set_option maxRecDepth 20000 in
theorem LW_law_510 {X : SX} {d : Nat} {st : List Value} {h : HH} {Q : Int32 → HH → Prop} {a0 a2 a3 : Value}   (kk : E X d LW_law 511 [a0, .ref 0, a2, a3] (.ref 0 :: st) h Q) : E X d LW_law 510 [a0, .ref 0, a2, a3] st h Q := Ev.aload_n (by decide +kernel : decode LW_law.2.1 510 = .ok (.aload_n 1, 1)) rfl rfl kk
set_option maxRecDepth 20000 in
theorem LW_law_511 {X : SX} {d : Nat} {L : List Value} {st : List Value} {h : HH} {Q : Int32 → HH → Prop}   (hc : (st.map (fun v => v.category)).sum ≤ 8) (kk : E X d FC_week 0 [.ref 0] [] h (fun x h' => E X (d + 1) LW_law 514 L (.int x :: st) h' Q)) : E X (d + 1) LW_law 511 L (.ref 0 :: st) h Q := E.callVi (n := 0) (ix := 50) (args := []) (by decide +kernel : decode LW_law.2.1 511 = .ok (.invokevirtual 50, 3)) FC_week_ok rfl rfl rfl wd_445 wd_446 wd_447 rfl FC_week_ds (Nat.le_of_ble_eq_true rfl) hc (by decide) kk
set_option maxRecDepth 20000 in
theorem LW_law_514 {X : SX} {d : Nat} {st : List Value} {h : HH} {Q : Int32 → HH → Prop} {a0 a1 a3 : Value}   (kk : E X d LW_law 515 [a0, a1, .ref 57, a3] (.ref 57 :: st) h Q) : E X d LW_law 514 [a0, a1, .ref 57, a3] st h Q := Ev.aload_n (by decide +kernel : decode LW_law.2.1 514 = .ok (.aload_n 2, 1)) rfl rfl kk
set_option maxRecDepth 20000 in
theorem LW_law_515 {X : SX} {d : Nat} {L : List Value} {st : List Value} {h : HH} {Q : Int32 → HH → Prop}   (hc : (st.map (fun v => v.category)).sum ≤ 8) (kk : E X d FM_week 0 [.ref 57, U0, U0, U0] [] h (fun x h' => E X (d + 1) LW_law 518 L (.int x :: st) h' Q)) : E X (d + 1) LW_law 515 L (.ref 57 :: st) h Q := E.callVi (n := 0) (ix := 54) (args := []) (by decide +kernel : decode LW_law.2.1 515 = .ok (.invokevirtual 54, 3)) FM_week_ok rfl rfl rfl wd_1143 wd_1144 wd_1145 rfl FM_week_ds (Nat.le_of_ble_eq_true rfl) hc (by decide) kk
set_option maxRecDepth 20000 in
theorem LW_law_518 {X : SX} {d : Nat} {L : List Value} {st : List Value} {h : HH} {Q : Int32 → HH → Prop} {x z : Int32}  (kt : x = z → E X d LW_law 1477 L st h Q) (kf : ¬ x = z → E X d LW_law 521 L st h Q) : E X d LW_law 518 L (.int z :: .int x :: st) h Q := Ev.icmp_eq (tgt := 1477) (by decide +kernel : decode LW_law.2.1 518 = .ok (.if_icmp .eq 959, 3)) (by decide) kt kf
set_option maxRecDepth 20000 in
theorem LW_law_521 {X : SX} {d : Nat} {L : List Value} {st : List Value} {h : HH} {Q : Int32 → HH → Prop}   (kk : E X d LW_law 522 L (.int 0 :: st) h Q) : E X d LW_law 521 L st h Q := Ev.iconst (by decide +kernel : decode LW_law.2.1 521 = .ok (.iconst 0, 1)) (by decide) kk
set_option maxRecDepth 20000 in
theorem LW_law_522 {X : SX} {d : Nat} {L : List Value} {h : HH} {Q : Int32 → HH → Prop} {x : Int32} (hb : narrow .boolean (.int x) = .int x) (hq : Q x h)  : E X d LW_law 522 L [.int x] h Q := Ev.ireturn (by decide +kernel : decode LW_law.2.1 522 = .ok (.ireturn, 1)) rfl hb ⟨rfl, hq⟩
set_option maxRecDepth 20000 in
theorem LW_law_523 {X : SX} {d : Nat} {st : List Value} {h : HH} {Q : Int32 → HH → Prop} {a0 a2 a3 : Value}   (kk : E X d LW_law 524 [a0, .ref 0, a2, a3] (.ref 0 :: st) h Q) : E X d LW_law 523 [a0, .ref 0, a2, a3] st h Q := Ev.aload_n (by decide +kernel : decode LW_law.2.1 523 = .ok (.aload_n 1, 1)) rfl rfl kk
set_option maxRecDepth 20000 in
theorem LW_law_524 {X : SX} {d : Nat} {st : List Value} {h : HH} {Q : Int32 → HH → Prop} {a1 a2 a3 : Value}   (kk : E X d LW_law 525 [.ref 1003, a1, a2, a3] (.ref 1003 :: st) h Q) : E X d LW_law 524 [.ref 1003, a1, a2, a3] st h Q := Ev.aload_n (by decide +kernel : decode LW_law.2.1 524 = .ok (.aload_n 0, 1)) rfl rfl kk
set_option maxRecDepth 20000 in
theorem LW_law_525 {X : SX} {d : Nat} {st : List Value} {h : HH} {Q : Int32 → HH → Prop} {a0 a1 a2 : Value} {x : Int32}  (kk : E X d LW_law 526 [a0, a1, a2, .int x] (.int x :: st) h Q) : E X d LW_law 525 [a0, a1, a2, .int x] st h Q := Ev.iload_n (by decide +kernel : decode LW_law.2.1 525 = .ok (.iload_n 3, 1)) rfl rfl kk
set_option maxRecDepth 20000 in
theorem LW_law_526 {X : SX} {d : Nat} {L : List Value} {st : List Value} {h : HH} {Q : Int32 → HH → Prop}   (kk : E X d LW_law 527 L (.int 1 :: st) h Q) : E X d LW_law 526 L st h Q := Ev.iconst (by decide +kernel : decode LW_law.2.1 526 = .ok (.iconst 1, 1)) (by decide) kk
set_option maxRecDepth 20000 in
theorem LW_law_527 {X : SX} {d : Nat} {L : List Value} {st : List Value} {h : HH} {Q : Int32 → HH → Prop} {x z : Int32}  (kk : E X d LW_law 528 L (.int (x + z) :: st) h Q) : E X d LW_law 527 L (.int z :: .int x :: st) h Q := Ev.iadd (by decide +kernel : decode LW_law.2.1 527 = .ok (.iadd, 1)) kk
set_option maxRecDepth 20000 in
theorem LW_law_528 {X : SX} {d : Nat} {L : List Value} {st : List Value} {h : HH} {Q : Int32 → HH → Prop} {i : Int32} (hi : vp_in i X.1) (kk : E X d LW_law 529 L (.int (X.2 i.toNatClampNeg) :: st) h Q) : E X d LW_law 528 L (.int i :: .ref 1003 :: st) h Q := Ev.tScript (by decide +kernel : decode LW_law.2.1 528 = .ok (.iaload, 1)) hi kk
set_option maxRecDepth 20000 in
theorem LW_law_529 {X : SX} {d : Nat} {st : List Value} {h : HH} {Q : Int32 → HH → Prop} {a1 a2 a3 : Value}   (kk : E X d LW_law 530 [.ref 1003, a1, a2, a3] (.ref 1003 :: st) h Q) : E X d LW_law 529 [.ref 1003, a1, a2, a3] st h Q := Ev.aload_n (by decide +kernel : decode LW_law.2.1 529 = .ok (.aload_n 0, 1)) rfl rfl kk
set_option maxRecDepth 20000 in
theorem LW_law_530 {X : SX} {d : Nat} {st : List Value} {h : HH} {Q : Int32 → HH → Prop} {a0 a1 a2 : Value} {x : Int32}  (kk : E X d LW_law 531 [a0, a1, a2, .int x] (.int x :: st) h Q) : E X d LW_law 530 [a0, a1, a2, .int x] st h Q := Ev.iload_n (by decide +kernel : decode LW_law.2.1 530 = .ok (.iload_n 3, 1)) rfl rfl kk
set_option maxRecDepth 20000 in
theorem LW_law_531 {X : SX} {d : Nat} {L : List Value} {st : List Value} {h : HH} {Q : Int32 → HH → Prop}   (kk : E X d LW_law 532 L (.int 2 :: st) h Q) : E X d LW_law 531 L st h Q := Ev.iconst (by decide +kernel : decode LW_law.2.1 531 = .ok (.iconst 2, 1)) (by decide) kk
set_option maxRecDepth 20000 in
theorem LW_law_532 {X : SX} {d : Nat} {L : List Value} {st : List Value} {h : HH} {Q : Int32 → HH → Prop} {x z : Int32}  (kk : E X d LW_law 533 L (.int (x + z) :: st) h Q) : E X d LW_law 532 L (.int z :: .int x :: st) h Q := Ev.iadd (by decide +kernel : decode LW_law.2.1 532 = .ok (.iadd, 1)) kk
set_option maxRecDepth 20000 in
theorem LW_law_533 {X : SX} {d : Nat} {L : List Value} {st : List Value} {h : HH} {Q : Int32 → HH → Prop} {i : Int32} (hi : vp_in i X.1) (kk : E X d LW_law 534 L (.int (X.2 i.toNatClampNeg) :: st) h Q) : E X d LW_law 533 L (.int i :: .ref 1003 :: st) h Q := Ev.tScript (by decide +kernel : decode LW_law.2.1 533 = .ok (.iaload, 1)) hi kk
set_option maxRecDepth 20000 in
theorem LW_law_534 {X : SX} {d : Nat} {st : List Value} {h : HH} {Q : Int32 → HH → Prop} {a1 a2 a3 : Value}   (kk : E X d LW_law 535 [.ref 1003, a1, a2, a3] (.ref 1003 :: st) h Q) : E X d LW_law 534 [.ref 1003, a1, a2, a3] st h Q := Ev.aload_n (by decide +kernel : decode LW_law.2.1 534 = .ok (.aload_n 0, 1)) rfl rfl kk
set_option maxRecDepth 20000 in
theorem LW_law_535 {X : SX} {d : Nat} {st : List Value} {h : HH} {Q : Int32 → HH → Prop} {a0 a1 a2 : Value} {x : Int32}  (kk : E X d LW_law 536 [a0, a1, a2, .int x] (.int x :: st) h Q) : E X d LW_law 535 [a0, a1, a2, .int x] st h Q := Ev.iload_n (by decide +kernel : decode LW_law.2.1 535 = .ok (.iload_n 3, 1)) rfl rfl kk
set_option maxRecDepth 20000 in
theorem LW_law_536 {X : SX} {d : Nat} {L : List Value} {st : List Value} {h : HH} {Q : Int32 → HH → Prop}   (kk : E X d LW_law 537 L (.int 3 :: st) h Q) : E X d LW_law 536 L st h Q := Ev.iconst (by decide +kernel : decode LW_law.2.1 536 = .ok (.iconst 3, 1)) (by decide) kk
set_option maxRecDepth 20000 in
theorem LW_law_537 {X : SX} {d : Nat} {L : List Value} {st : List Value} {h : HH} {Q : Int32 → HH → Prop} {x z : Int32}  (kk : E X d LW_law 538 L (.int (x + z) :: st) h Q) : E X d LW_law 537 L (.int z :: .int x :: st) h Q := Ev.iadd (by decide +kernel : decode LW_law.2.1 537 = .ok (.iadd, 1)) kk
set_option maxRecDepth 20000 in
theorem LW_law_538 {X : SX} {d : Nat} {L : List Value} {st : List Value} {h : HH} {Q : Int32 → HH → Prop} {i : Int32} (hi : vp_in i X.1) (kk : E X d LW_law 539 L (.int (X.2 i.toNatClampNeg) :: st) h Q) : E X d LW_law 538 L (.int i :: .ref 1003 :: st) h Q := Ev.tScript (by decide +kernel : decode LW_law.2.1 538 = .ok (.iaload, 1)) hi kk
set_option maxRecDepth 20000 in
theorem LW_law_539 {X : SX} {d : Nat} {st : List Value} {h : HH} {Q : Int32 → HH → Prop} {a1 a2 a3 : Value}   (kk : E X d LW_law 540 [.ref 1003, a1, a2, a3] (.ref 1003 :: st) h Q) : E X d LW_law 539 [.ref 1003, a1, a2, a3] st h Q := Ev.aload_n (by decide +kernel : decode LW_law.2.1 539 = .ok (.aload_n 0, 1)) rfl rfl kk
set_option maxRecDepth 20000 in
theorem LW_law_540 {X : SX} {d : Nat} {st : List Value} {h : HH} {Q : Int32 → HH → Prop} {a0 a1 a2 : Value} {x : Int32}  (kk : E X d LW_law 541 [a0, a1, a2, .int x] (.int x :: st) h Q) : E X d LW_law 540 [a0, a1, a2, .int x] st h Q := Ev.iload_n (by decide +kernel : decode LW_law.2.1 540 = .ok (.iload_n 3, 1)) rfl rfl kk
set_option maxRecDepth 20000 in
theorem LW_law_541 {X : SX} {d : Nat} {L : List Value} {st : List Value} {h : HH} {Q : Int32 → HH → Prop}   (kk : E X d LW_law 542 L (.int 4 :: st) h Q) : E X d LW_law 541 L st h Q := Ev.iconst (by decide +kernel : decode LW_law.2.1 541 = .ok (.iconst 4, 1)) (by decide) kk
set_option maxRecDepth 20000 in
theorem LW_law_542 {X : SX} {d : Nat} {L : List Value} {st : List Value} {h : HH} {Q : Int32 → HH → Prop} {x z : Int32}  (kk : E X d LW_law 543 L (.int (x + z) :: st) h Q) : E X d LW_law 542 L (.int z :: .int x :: st) h Q := Ev.iadd (by decide +kernel : decode LW_law.2.1 542 = .ok (.iadd, 1)) kk
set_option maxRecDepth 20000 in
theorem LW_law_543 {X : SX} {d : Nat} {L : List Value} {st : List Value} {h : HH} {Q : Int32 → HH → Prop} {i : Int32} (hi : vp_in i X.1) (kk : E X d LW_law 544 L (.int (X.2 i.toNatClampNeg) :: st) h Q) : E X d LW_law 543 L (.int i :: .ref 1003 :: st) h Q := Ev.tScript (by decide +kernel : decode LW_law.2.1 543 = .ok (.iaload, 1)) hi kk
set_option maxRecDepth 20000 in
theorem LW_law_544 {X : SX} {d : Nat} {L : List Value} {st : List Value} {h : HH} {Q : Int32 → HH → Prop} {b0 : Int32} {b1 : Int32} {b2 : Int32} {b3 : Int32}   (hc : (st.map (fun v => v.category)).sum ≤ 8) (kk : E X d FC_way 0 [.ref 0, .int b0, .int b1, .int b2, .int b3, U0] [] h (fun x h' => E X (d + 1) LW_law 547 L (.int x :: st) h' Q)) : E X (d + 1) LW_law 544 L (.int b3 :: .int b2 :: .int b1 :: .int b0 :: .ref 0 :: st) h Q := E.callVi (n := 4) (ix := 55) (args := [.int b0, .int b1, .int b2, .int b3]) (by decide +kernel : decode LW_law.2.1 544 = .ok (.invokevirtual 55, 3)) FC_way_ok rfl rfl rfl wd_514 wd_515 wd_516 rfl FC_way_ds (Nat.le_of_ble_eq_true rfl) hc (by decide) kk
set_option maxRecDepth 20000 in
theorem LW_law_547 {X : SX} {d : Nat} {st : List Value} {h : HH} {Q : Int32 → HH → Prop} {a0 a1 a3 : Value}   (kk : E X d LW_law 548 [a0, a1, .ref 57, a3] (.ref 57 :: st) h Q) : E X d LW_law 547 [a0, a1, .ref 57, a3] st h Q := Ev.aload_n (by decide +kernel : decode LW_law.2.1 547 = .ok (.aload_n 2, 1)) rfl rfl kk
set_option maxRecDepth 20000 in
theorem LW_law_548 {X : SX} {d : Nat} {st : List Value} {h : HH} {Q : Int32 → HH → Prop} {a1 a2 a3 : Value}   (kk : E X d LW_law 549 [.ref 1003, a1, a2, a3] (.ref 1003 :: st) h Q) : E X d LW_law 548 [.ref 1003, a1, a2, a3] st h Q := Ev.aload_n (by decide +kernel : decode LW_law.2.1 548 = .ok (.aload_n 0, 1)) rfl rfl kk
set_option maxRecDepth 20000 in
theorem LW_law_549 {X : SX} {d : Nat} {st : List Value} {h : HH} {Q : Int32 → HH → Prop} {a0 a1 a2 : Value} {x : Int32}  (kk : E X d LW_law 550 [a0, a1, a2, .int x] (.int x :: st) h Q) : E X d LW_law 549 [a0, a1, a2, .int x] st h Q := Ev.iload_n (by decide +kernel : decode LW_law.2.1 549 = .ok (.iload_n 3, 1)) rfl rfl kk
set_option maxRecDepth 20000 in
theorem LW_law_550 {X : SX} {d : Nat} {L : List Value} {st : List Value} {h : HH} {Q : Int32 → HH → Prop}   (kk : E X d LW_law 551 L (.int 1 :: st) h Q) : E X d LW_law 550 L st h Q := Ev.iconst (by decide +kernel : decode LW_law.2.1 550 = .ok (.iconst 1, 1)) (by decide) kk
set_option maxRecDepth 20000 in
theorem LW_law_551 {X : SX} {d : Nat} {L : List Value} {st : List Value} {h : HH} {Q : Int32 → HH → Prop} {x z : Int32}  (kk : E X d LW_law 552 L (.int (x + z) :: st) h Q) : E X d LW_law 551 L (.int z :: .int x :: st) h Q := Ev.iadd (by decide +kernel : decode LW_law.2.1 551 = .ok (.iadd, 1)) kk
set_option maxRecDepth 20000 in
theorem LW_law_552 {X : SX} {d : Nat} {L : List Value} {st : List Value} {h : HH} {Q : Int32 → HH → Prop} {i : Int32} (hi : vp_in i X.1) (kk : E X d LW_law 553 L (.int (X.2 i.toNatClampNeg) :: st) h Q) : E X d LW_law 552 L (.int i :: .ref 1003 :: st) h Q := Ev.tScript (by decide +kernel : decode LW_law.2.1 552 = .ok (.iaload, 1)) hi kk
set_option maxRecDepth 20000 in
theorem LW_law_553 {X : SX} {d : Nat} {st : List Value} {h : HH} {Q : Int32 → HH → Prop} {a1 a2 a3 : Value}   (kk : E X d LW_law 554 [.ref 1003, a1, a2, a3] (.ref 1003 :: st) h Q) : E X d LW_law 553 [.ref 1003, a1, a2, a3] st h Q := Ev.aload_n (by decide +kernel : decode LW_law.2.1 553 = .ok (.aload_n 0, 1)) rfl rfl kk
set_option maxRecDepth 20000 in
theorem LW_law_554 {X : SX} {d : Nat} {st : List Value} {h : HH} {Q : Int32 → HH → Prop} {a0 a1 a2 : Value} {x : Int32}  (kk : E X d LW_law 555 [a0, a1, a2, .int x] (.int x :: st) h Q) : E X d LW_law 554 [a0, a1, a2, .int x] st h Q := Ev.iload_n (by decide +kernel : decode LW_law.2.1 554 = .ok (.iload_n 3, 1)) rfl rfl kk
set_option maxRecDepth 20000 in
theorem LW_law_555 {X : SX} {d : Nat} {L : List Value} {st : List Value} {h : HH} {Q : Int32 → HH → Prop}   (kk : E X d LW_law 556 L (.int 2 :: st) h Q) : E X d LW_law 555 L st h Q := Ev.iconst (by decide +kernel : decode LW_law.2.1 555 = .ok (.iconst 2, 1)) (by decide) kk
set_option maxRecDepth 20000 in
theorem LW_law_556 {X : SX} {d : Nat} {L : List Value} {st : List Value} {h : HH} {Q : Int32 → HH → Prop} {x z : Int32}  (kk : E X d LW_law 557 L (.int (x + z) :: st) h Q) : E X d LW_law 556 L (.int z :: .int x :: st) h Q := Ev.iadd (by decide +kernel : decode LW_law.2.1 556 = .ok (.iadd, 1)) kk
set_option maxRecDepth 20000 in
theorem LW_law_557 {X : SX} {d : Nat} {L : List Value} {st : List Value} {h : HH} {Q : Int32 → HH → Prop} {i : Int32} (hi : vp_in i X.1) (kk : E X d LW_law 558 L (.int (X.2 i.toNatClampNeg) :: st) h Q) : E X d LW_law 557 L (.int i :: .ref 1003 :: st) h Q := Ev.tScript (by decide +kernel : decode LW_law.2.1 557 = .ok (.iaload, 1)) hi kk
set_option maxRecDepth 20000 in
theorem LW_law_558 {X : SX} {d : Nat} {st : List Value} {h : HH} {Q : Int32 → HH → Prop} {a1 a2 a3 : Value}   (kk : E X d LW_law 559 [.ref 1003, a1, a2, a3] (.ref 1003 :: st) h Q) : E X d LW_law 558 [.ref 1003, a1, a2, a3] st h Q := Ev.aload_n (by decide +kernel : decode LW_law.2.1 558 = .ok (.aload_n 0, 1)) rfl rfl kk
set_option maxRecDepth 20000 in
theorem LW_law_559 {X : SX} {d : Nat} {st : List Value} {h : HH} {Q : Int32 → HH → Prop} {a0 a1 a2 : Value} {x : Int32}  (kk : E X d LW_law 560 [a0, a1, a2, .int x] (.int x :: st) h Q) : E X d LW_law 559 [a0, a1, a2, .int x] st h Q := Ev.iload_n (by decide +kernel : decode LW_law.2.1 559 = .ok (.iload_n 3, 1)) rfl rfl kk
set_option maxRecDepth 20000 in
theorem LW_law_560 {X : SX} {d : Nat} {L : List Value} {st : List Value} {h : HH} {Q : Int32 → HH → Prop}   (kk : E X d LW_law 561 L (.int 3 :: st) h Q) : E X d LW_law 560 L st h Q := Ev.iconst (by decide +kernel : decode LW_law.2.1 560 = .ok (.iconst 3, 1)) (by decide) kk
set_option maxRecDepth 20000 in
theorem LW_law_561 {X : SX} {d : Nat} {L : List Value} {st : List Value} {h : HH} {Q : Int32 → HH → Prop} {x z : Int32}  (kk : E X d LW_law 562 L (.int (x + z) :: st) h Q) : E X d LW_law 561 L (.int z :: .int x :: st) h Q := Ev.iadd (by decide +kernel : decode LW_law.2.1 561 = .ok (.iadd, 1)) kk
set_option maxRecDepth 20000 in
theorem LW_law_562 {X : SX} {d : Nat} {L : List Value} {st : List Value} {h : HH} {Q : Int32 → HH → Prop} {i : Int32} (hi : vp_in i X.1) (kk : E X d LW_law 563 L (.int (X.2 i.toNatClampNeg) :: st) h Q) : E X d LW_law 562 L (.int i :: .ref 1003 :: st) h Q := Ev.tScript (by decide +kernel : decode LW_law.2.1 562 = .ok (.iaload, 1)) hi kk
set_option maxRecDepth 20000 in
theorem LW_law_563 {X : SX} {d : Nat} {st : List Value} {h : HH} {Q : Int32 → HH → Prop} {a1 a2 a3 : Value}   (kk : E X d LW_law 564 [.ref 1003, a1, a2, a3] (.ref 1003 :: st) h Q) : E X d LW_law 563 [.ref 1003, a1, a2, a3] st h Q := Ev.aload_n (by decide +kernel : decode LW_law.2.1 563 = .ok (.aload_n 0, 1)) rfl rfl kk
set_option maxRecDepth 20000 in
theorem LW_law_564 {X : SX} {d : Nat} {st : List Value} {h : HH} {Q : Int32 → HH → Prop} {a0 a1 a2 : Value} {x : Int32}  (kk : E X d LW_law 565 [a0, a1, a2, .int x] (.int x :: st) h Q) : E X d LW_law 564 [a0, a1, a2, .int x] st h Q := Ev.iload_n (by decide +kernel : decode LW_law.2.1 564 = .ok (.iload_n 3, 1)) rfl rfl kk
set_option maxRecDepth 20000 in
theorem LW_law_565 {X : SX} {d : Nat} {L : List Value} {st : List Value} {h : HH} {Q : Int32 → HH → Prop}   (kk : E X d LW_law 566 L (.int 4 :: st) h Q) : E X d LW_law 565 L st h Q := Ev.iconst (by decide +kernel : decode LW_law.2.1 565 = .ok (.iconst 4, 1)) (by decide) kk
set_option maxRecDepth 20000 in
theorem LW_law_566 {X : SX} {d : Nat} {L : List Value} {st : List Value} {h : HH} {Q : Int32 → HH → Prop} {x z : Int32}  (kk : E X d LW_law 567 L (.int (x + z) :: st) h Q) : E X d LW_law 566 L (.int z :: .int x :: st) h Q := Ev.iadd (by decide +kernel : decode LW_law.2.1 566 = .ok (.iadd, 1)) kk
set_option maxRecDepth 20000 in
theorem LW_law_567 {X : SX} {d : Nat} {L : List Value} {st : List Value} {h : HH} {Q : Int32 → HH → Prop} {i : Int32} (hi : vp_in i X.1) (kk : E X d LW_law 568 L (.int (X.2 i.toNatClampNeg) :: st) h Q) : E X d LW_law 567 L (.int i :: .ref 1003 :: st) h Q := Ev.tScript (by decide +kernel : decode LW_law.2.1 567 = .ok (.iaload, 1)) hi kk
set_option maxRecDepth 20000 in
theorem LW_law_568 {X : SX} {d : Nat} {L : List Value} {st : List Value} {h : HH} {Q : Int32 → HH → Prop} {b0 : Int32} {b1 : Int32} {b2 : Int32} {b3 : Int32}   (hc : (st.map (fun v => v.category)).sum ≤ 8) (kk : E X d FM_way 0 [.ref 57, .int b0, .int b1, .int b2, .int b3] [] h (fun x h' => E X (d + 1) LW_law 571 L (.int x :: st) h' Q)) : E X (d + 1) LW_law 568 L (.int b3 :: .int b2 :: .int b1 :: .int b0 :: .ref 57 :: st) h Q := E.callVi (n := 4) (ix := 58) (args := [.int b0, .int b1, .int b2, .int b3]) (by decide +kernel : decode LW_law.2.1 568 = .ok (.invokevirtual 58, 3)) FM_way_ok rfl rfl rfl wd_1167 wd_1168 wd_1169 rfl FM_way_ds (Nat.le_of_ble_eq_true rfl) hc (by decide) kk
set_option maxRecDepth 20000 in
theorem LW_law_571 {X : SX} {d : Nat} {L : List Value} {st : List Value} {h : HH} {Q : Int32 → HH → Prop} {x z : Int32}  (kt : x = z → E X d LW_law 1477 L st h Q) (kf : ¬ x = z → E X d LW_law 574 L st h Q) : E X d LW_law 571 L (.int z :: .int x :: st) h Q := Ev.icmp_eq (tgt := 1477) (by decide +kernel : decode LW_law.2.1 571 = .ok (.if_icmp .eq 906, 3)) (by decide) kt kf
set_option maxRecDepth 20000 in
theorem LW_law_574 {X : SX} {d : Nat} {L : List Value} {st : List Value} {h : HH} {Q : Int32 → HH → Prop}   (kk : E X d LW_law 575 L (.int 0 :: st) h Q) : E X d LW_law 574 L st h Q := Ev.iconst (by decide +kernel : decode LW_law.2.1 574 = .ok (.iconst 0, 1)) (by decide) kk
set_option maxRecDepth 20000 in
theorem LW_law_575 {X : SX} {d : Nat} {L : List Value} {h : HH} {Q : Int32 → HH → Prop} {x : Int32} (hb : narrow .boolean (.int x) = .int x) (hq : Q x h)  : E X d LW_law 575 L [.int x] h Q := Ev.ireturn (by decide +kernel : decode LW_law.2.1 575 = .ok (.ireturn, 1)) rfl hb ⟨rfl, hq⟩
set_option maxRecDepth 20000 in
theorem LW_law_576 {X : SX} {d : Nat} {st : List Value} {h : HH} {Q : Int32 → HH → Prop} {a0 a2 a3 : Value}   (kk : E X d LW_law 577 [a0, .ref 0, a2, a3] (.ref 0 :: st) h Q) : E X d LW_law 576 [a0, .ref 0, a2, a3] st h Q := Ev.aload_n (by decide +kernel : decode LW_law.2.1 576 = .ok (.aload_n 1, 1)) rfl rfl kk
set_option maxRecDepth 20000 in
theorem LW_law_577 {X : SX} {d : Nat} {st : List Value} {h : HH} {Q : Int32 → HH → Prop} {a1 a2 a3 : Value}   (kk : E X d LW_law 578 [.ref 1003, a1, a2, a3] (.ref 1003 :: st) h Q) : E X d LW_law 577 [.ref 1003, a1, a2, a3] st h Q := Ev.aload_n (by decide +kernel : decode LW_law.2.1 577 = .ok (.aload_n 0, 1)) rfl rfl kk
set_option maxRecDepth 20000 in
theorem LW_law_578 {X : SX} {d : Nat} {st : List Value} {h : HH} {Q : Int32 → HH → Prop} {a0 a1 a2 : Value} {x : Int32}  (kk : E X d LW_law 579 [a0, a1, a2, .int x] (.int x :: st) h Q) : E X d LW_law 578 [a0, a1, a2, .int x] st h Q := Ev.iload_n (by decide +kernel : decode LW_law.2.1 578 = .ok (.iload_n 3, 1)) rfl rfl kk
set_option maxRecDepth 20000 in
theorem LW_law_579 {X : SX} {d : Nat} {L : List Value} {st : List Value} {h : HH} {Q : Int32 → HH → Prop}   (kk : E X d LW_law 580 L (.int 1 :: st) h Q) : E X d LW_law 579 L st h Q := Ev.iconst (by decide +kernel : decode LW_law.2.1 579 = .ok (.iconst 1, 1)) (by decide) kk
set_option maxRecDepth 20000 in
theorem LW_law_580 {X : SX} {d : Nat} {L : List Value} {st : List Value} {h : HH} {Q : Int32 → HH → Prop} {x z : Int32}  (kk : E X d LW_law 581 L (.int (x + z) :: st) h Q) : E X d LW_law 580 L (.int z :: .int x :: st) h Q := Ev.iadd (by decide +kernel : decode LW_law.2.1 580 = .ok (.iadd, 1)) kk
set_option maxRecDepth 20000 in
theorem LW_law_581 {X : SX} {d : Nat} {L : List Value} {st : List Value} {h : HH} {Q : Int32 → HH → Prop} {i : Int32} (hi : vp_in i X.1) (kk : E X d LW_law 582 L (.int (X.2 i.toNatClampNeg) :: st) h Q) : E X d LW_law 581 L (.int i :: .ref 1003 :: st) h Q := Ev.tScript (by decide +kernel : decode LW_law.2.1 581 = .ok (.iaload, 1)) hi kk
set_option maxRecDepth 20000 in
theorem LW_law_582 {X : SX} {d : Nat} {st : List Value} {h : HH} {Q : Int32 → HH → Prop} {a1 a2 a3 : Value}   (kk : E X d LW_law 583 [.ref 1003, a1, a2, a3] (.ref 1003 :: st) h Q) : E X d LW_law 582 [.ref 1003, a1, a2, a3] st h Q := Ev.aload_n (by decide +kernel : decode LW_law.2.1 582 = .ok (.aload_n 0, 1)) rfl rfl kk
set_option maxRecDepth 20000 in
theorem LW_law_583 {X : SX} {d : Nat} {st : List Value} {h : HH} {Q : Int32 → HH → Prop} {a0 a1 a2 : Value} {x : Int32}  (kk : E X d LW_law 584 [a0, a1, a2, .int x] (.int x :: st) h Q) : E X d LW_law 583 [a0, a1, a2, .int x] st h Q := Ev.iload_n (by decide +kernel : decode LW_law.2.1 583 = .ok (.iload_n 3, 1)) rfl rfl kk
set_option maxRecDepth 20000 in
theorem LW_law_584 {X : SX} {d : Nat} {L : List Value} {st : List Value} {h : HH} {Q : Int32 → HH → Prop}   (kk : E X d LW_law 585 L (.int 2 :: st) h Q) : E X d LW_law 584 L st h Q := Ev.iconst (by decide +kernel : decode LW_law.2.1 584 = .ok (.iconst 2, 1)) (by decide) kk
set_option maxRecDepth 20000 in
theorem LW_law_585 {X : SX} {d : Nat} {L : List Value} {st : List Value} {h : HH} {Q : Int32 → HH → Prop} {x z : Int32}  (kk : E X d LW_law 586 L (.int (x + z) :: st) h Q) : E X d LW_law 585 L (.int z :: .int x :: st) h Q := Ev.iadd (by decide +kernel : decode LW_law.2.1 585 = .ok (.iadd, 1)) kk
set_option maxRecDepth 20000 in
theorem LW_law_586 {X : SX} {d : Nat} {L : List Value} {st : List Value} {h : HH} {Q : Int32 → HH → Prop} {i : Int32} (hi : vp_in i X.1) (kk : E X d LW_law 587 L (.int (X.2 i.toNatClampNeg) :: st) h Q) : E X d LW_law 586 L (.int i :: .ref 1003 :: st) h Q := Ev.tScript (by decide +kernel : decode LW_law.2.1 586 = .ok (.iaload, 1)) hi kk
set_option maxRecDepth 20000 in
theorem LW_law_587 {X : SX} {d : Nat} {st : List Value} {h : HH} {Q : Int32 → HH → Prop} {a1 a2 a3 : Value}   (kk : E X d LW_law 588 [.ref 1003, a1, a2, a3] (.ref 1003 :: st) h Q) : E X d LW_law 587 [.ref 1003, a1, a2, a3] st h Q := Ev.aload_n (by decide +kernel : decode LW_law.2.1 587 = .ok (.aload_n 0, 1)) rfl rfl kk
set_option maxRecDepth 20000 in
theorem LW_law_588 {X : SX} {d : Nat} {st : List Value} {h : HH} {Q : Int32 → HH → Prop} {a0 a1 a2 : Value} {x : Int32}  (kk : E X d LW_law 589 [a0, a1, a2, .int x] (.int x :: st) h Q) : E X d LW_law 588 [a0, a1, a2, .int x] st h Q := Ev.iload_n (by decide +kernel : decode LW_law.2.1 588 = .ok (.iload_n 3, 1)) rfl rfl kk
set_option maxRecDepth 20000 in
theorem LW_law_589 {X : SX} {d : Nat} {L : List Value} {st : List Value} {h : HH} {Q : Int32 → HH → Prop}   (kk : E X d LW_law 590 L (.int 3 :: st) h Q) : E X d LW_law 589 L st h Q := Ev.iconst (by decide +kernel : decode LW_law.2.1 589 = .ok (.iconst 3, 1)) (by decide) kk
set_option maxRecDepth 20000 in
theorem LW_law_590 {X : SX} {d : Nat} {L : List Value} {st : List Value} {h : HH} {Q : Int32 → HH → Prop} {x z : Int32}  (kk : E X d LW_law 591 L (.int (x + z) :: st) h Q) : E X d LW_law 590 L (.int z :: .int x :: st) h Q := Ev.iadd (by decide +kernel : decode LW_law.2.1 590 = .ok (.iadd, 1)) kk
set_option maxRecDepth 20000 in
theorem LW_law_591 {X : SX} {d : Nat} {L : List Value} {st : List Value} {h : HH} {Q : Int32 → HH → Prop} {i : Int32} (hi : vp_in i X.1) (kk : E X d LW_law 592 L (.int (X.2 i.toNatClampNeg) :: st) h Q) : E X d LW_law 591 L (.int i :: .ref 1003 :: st) h Q := Ev.tScript (by decide +kernel : decode LW_law.2.1 591 = .ok (.iaload, 1)) hi kk
set_option maxRecDepth 20000 in
theorem LW_law_592 {X : SX} {d : Nat} {L : List Value} {st : List Value} {h : HH} {Q : Int32 → HH → Prop} {b0 : Int32} {b1 : Int32} {b2 : Int32}   (hc : (st.map (fun v => v.category)).sum ≤ 8) (kk : E X d FC_work 0 [.ref 0, .int b0, .int b1, .int b2] [] h (fun x h' => E X (d + 1) LW_law 595 L (.int x :: st) h' Q)) : E X (d + 1) LW_law 592 L (.int b2 :: .int b1 :: .int b0 :: .ref 0 :: st) h Q := E.callVi (n := 3) (ix := 59) (args := [.int b0, .int b1, .int b2]) (by decide +kernel : decode LW_law.2.1 592 = .ok (.invokevirtual 59, 3)) FC_work_ok rfl rfl rfl wd_522 wd_523 wd_524 rfl FC_work_ds (Nat.le_of_ble_eq_true rfl) hc (by decide) kk
set_option maxRecDepth 20000 in
theorem LW_law_595 {X : SX} {d : Nat} {st : List Value} {h : HH} {Q : Int32 → HH → Prop} {a0 a1 a3 : Value}   (kk : E X d LW_law 596 [a0, a1, .ref 57, a3] (.ref 57 :: st) h Q) : E X d LW_law 595 [a0, a1, .ref 57, a3] st h Q := Ev.aload_n (by decide +kernel : decode LW_law.2.1 595 = .ok (.aload_n 2, 1)) rfl rfl kk
set_option maxRecDepth 20000 in
theorem LW_law_596 {X : SX} {d : Nat} {st : List Value} {h : HH} {Q : Int32 → HH → Prop} {a1 a2 a3 : Value}   (kk : E X d LW_law 597 [.ref 1003, a1, a2, a3] (.ref 1003 :: st) h Q) : E X d LW_law 596 [.ref 1003, a1, a2, a3] st h Q := Ev.aload_n (by decide +kernel : decode LW_law.2.1 596 = .ok (.aload_n 0, 1)) rfl rfl kk
set_option maxRecDepth 20000 in
theorem LW_law_597 {X : SX} {d : Nat} {st : List Value} {h : HH} {Q : Int32 → HH → Prop} {a0 a1 a2 : Value} {x : Int32}  (kk : E X d LW_law 598 [a0, a1, a2, .int x] (.int x :: st) h Q) : E X d LW_law 597 [a0, a1, a2, .int x] st h Q := Ev.iload_n (by decide +kernel : decode LW_law.2.1 597 = .ok (.iload_n 3, 1)) rfl rfl kk
set_option maxRecDepth 20000 in
theorem LW_law_598 {X : SX} {d : Nat} {L : List Value} {st : List Value} {h : HH} {Q : Int32 → HH → Prop}   (kk : E X d LW_law 599 L (.int 1 :: st) h Q) : E X d LW_law 598 L st h Q := Ev.iconst (by decide +kernel : decode LW_law.2.1 598 = .ok (.iconst 1, 1)) (by decide) kk
set_option maxRecDepth 20000 in
theorem LW_law_599 {X : SX} {d : Nat} {L : List Value} {st : List Value} {h : HH} {Q : Int32 → HH → Prop} {x z : Int32}  (kk : E X d LW_law 600 L (.int (x + z) :: st) h Q) : E X d LW_law 599 L (.int z :: .int x :: st) h Q := Ev.iadd (by decide +kernel : decode LW_law.2.1 599 = .ok (.iadd, 1)) kk
set_option maxRecDepth 20000 in
theorem LW_law_600 {X : SX} {d : Nat} {L : List Value} {st : List Value} {h : HH} {Q : Int32 → HH → Prop} {i : Int32} (hi : vp_in i X.1) (kk : E X d LW_law 601 L (.int (X.2 i.toNatClampNeg) :: st) h Q) : E X d LW_law 600 L (.int i :: .ref 1003 :: st) h Q := Ev.tScript (by decide +kernel : decode LW_law.2.1 600 = .ok (.iaload, 1)) hi kk
set_option maxRecDepth 20000 in
theorem LW_law_601 {X : SX} {d : Nat} {st : List Value} {h : HH} {Q : Int32 → HH → Prop} {a1 a2 a3 : Value}   (kk : E X d LW_law 602 [.ref 1003, a1, a2, a3] (.ref 1003 :: st) h Q) : E X d LW_law 601 [.ref 1003, a1, a2, a3] st h Q := Ev.aload_n (by decide +kernel : decode LW_law.2.1 601 = .ok (.aload_n 0, 1)) rfl rfl kk
set_option maxRecDepth 20000 in
theorem LW_law_602 {X : SX} {d : Nat} {st : List Value} {h : HH} {Q : Int32 → HH → Prop} {a0 a1 a2 : Value} {x : Int32}  (kk : E X d LW_law 603 [a0, a1, a2, .int x] (.int x :: st) h Q) : E X d LW_law 602 [a0, a1, a2, .int x] st h Q := Ev.iload_n (by decide +kernel : decode LW_law.2.1 602 = .ok (.iload_n 3, 1)) rfl rfl kk
set_option maxRecDepth 20000 in
theorem LW_law_603 {X : SX} {d : Nat} {L : List Value} {st : List Value} {h : HH} {Q : Int32 → HH → Prop}   (kk : E X d LW_law 604 L (.int 2 :: st) h Q) : E X d LW_law 603 L st h Q := Ev.iconst (by decide +kernel : decode LW_law.2.1 603 = .ok (.iconst 2, 1)) (by decide) kk
set_option maxRecDepth 20000 in
theorem LW_law_604 {X : SX} {d : Nat} {L : List Value} {st : List Value} {h : HH} {Q : Int32 → HH → Prop} {x z : Int32}  (kk : E X d LW_law 605 L (.int (x + z) :: st) h Q) : E X d LW_law 604 L (.int z :: .int x :: st) h Q := Ev.iadd (by decide +kernel : decode LW_law.2.1 604 = .ok (.iadd, 1)) kk
set_option maxRecDepth 20000 in
theorem LW_law_605 {X : SX} {d : Nat} {L : List Value} {st : List Value} {h : HH} {Q : Int32 → HH → Prop} {i : Int32} (hi : vp_in i X.1) (kk : E X d LW_law 606 L (.int (X.2 i.toNatClampNeg) :: st) h Q) : E X d LW_law 605 L (.int i :: .ref 1003 :: st) h Q := Ev.tScript (by decide +kernel : decode LW_law.2.1 605 = .ok (.iaload, 1)) hi kk
set_option maxRecDepth 20000 in
theorem LW_law_606 {X : SX} {d : Nat} {st : List Value} {h : HH} {Q : Int32 → HH → Prop} {a1 a2 a3 : Value}   (kk : E X d LW_law 607 [.ref 1003, a1, a2, a3] (.ref 1003 :: st) h Q) : E X d LW_law 606 [.ref 1003, a1, a2, a3] st h Q := Ev.aload_n (by decide +kernel : decode LW_law.2.1 606 = .ok (.aload_n 0, 1)) rfl rfl kk
set_option maxRecDepth 20000 in
theorem LW_law_607 {X : SX} {d : Nat} {st : List Value} {h : HH} {Q : Int32 → HH → Prop} {a0 a1 a2 : Value} {x : Int32}  (kk : E X d LW_law 608 [a0, a1, a2, .int x] (.int x :: st) h Q) : E X d LW_law 607 [a0, a1, a2, .int x] st h Q := Ev.iload_n (by decide +kernel : decode LW_law.2.1 607 = .ok (.iload_n 3, 1)) rfl rfl kk
set_option maxRecDepth 20000 in
theorem LW_law_608 {X : SX} {d : Nat} {L : List Value} {st : List Value} {h : HH} {Q : Int32 → HH → Prop}   (kk : E X d LW_law 609 L (.int 3 :: st) h Q) : E X d LW_law 608 L st h Q := Ev.iconst (by decide +kernel : decode LW_law.2.1 608 = .ok (.iconst 3, 1)) (by decide) kk
set_option maxRecDepth 20000 in
theorem LW_law_609 {X : SX} {d : Nat} {L : List Value} {st : List Value} {h : HH} {Q : Int32 → HH → Prop} {x z : Int32}  (kk : E X d LW_law 610 L (.int (x + z) :: st) h Q) : E X d LW_law 609 L (.int z :: .int x :: st) h Q := Ev.iadd (by decide +kernel : decode LW_law.2.1 609 = .ok (.iadd, 1)) kk
set_option maxRecDepth 20000 in
theorem LW_law_610 {X : SX} {d : Nat} {L : List Value} {st : List Value} {h : HH} {Q : Int32 → HH → Prop} {i : Int32} (hi : vp_in i X.1) (kk : E X d LW_law 611 L (.int (X.2 i.toNatClampNeg) :: st) h Q) : E X d LW_law 610 L (.int i :: .ref 1003 :: st) h Q := Ev.tScript (by decide +kernel : decode LW_law.2.1 610 = .ok (.iaload, 1)) hi kk
set_option maxRecDepth 20000 in
theorem LW_law_611 {X : SX} {d : Nat} {L : List Value} {st : List Value} {h : HH} {Q : Int32 → HH → Prop} {b0 : Int32} {b1 : Int32} {b2 : Int32}   (hc : (st.map (fun v => v.category)).sum ≤ 8) (kk : E X d FM_work 0 [.ref 57, .int b0, .int b1, .int b2] [] h (fun x h' => E X (d + 1) LW_law 614 L (.int x :: st) h' Q)) : E X (d + 1) LW_law 611 L (.int b2 :: .int b1 :: .int b0 :: .ref 57 :: st) h Q := E.callVi (n := 3) (ix := 62) (args := [.int b0, .int b1, .int b2]) (by decide +kernel : decode LW_law.2.1 611 = .ok (.invokevirtual 62, 3)) FM_work_ok rfl rfl rfl wd_1171 wd_1172 wd_1173 rfl FM_work_ds (Nat.le_of_ble_eq_true rfl) hc (by decide) kk
set_option maxRecDepth 20000 in
theorem LW_law_614 {X : SX} {d : Nat} {L : List Value} {st : List Value} {h : HH} {Q : Int32 → HH → Prop} {x z : Int32}  (kt : x = z → E X d LW_law 1477 L st h Q) (kf : ¬ x = z → E X d LW_law 617 L st h Q) : E X d LW_law 614 L (.int z :: .int x :: st) h Q := Ev.icmp_eq (tgt := 1477) (by decide +kernel : decode LW_law.2.1 614 = .ok (.if_icmp .eq 863, 3)) (by decide) kt kf
set_option maxRecDepth 20000 in
theorem LW_law_617 {X : SX} {d : Nat} {L : List Value} {st : List Value} {h : HH} {Q : Int32 → HH → Prop}   (kk : E X d LW_law 618 L (.int 0 :: st) h Q) : E X d LW_law 617 L st h Q := Ev.iconst (by decide +kernel : decode LW_law.2.1 617 = .ok (.iconst 0, 1)) (by decide) kk
set_option maxRecDepth 20000 in
theorem LW_law_618 {X : SX} {d : Nat} {L : List Value} {h : HH} {Q : Int32 → HH → Prop} {x : Int32} (hb : narrow .boolean (.int x) = .int x) (hq : Q x h)  : E X d LW_law 618 L [.int x] h Q := Ev.ireturn (by decide +kernel : decode LW_law.2.1 618 = .ok (.ireturn, 1)) rfl hb ⟨rfl, hq⟩
set_option maxRecDepth 20000 in
theorem LW_law_619 {X : SX} {d : Nat} {st : List Value} {h : HH} {Q : Int32 → HH → Prop} {a0 a2 a3 : Value}   (kk : E X d LW_law 620 [a0, .ref 0, a2, a3] (.ref 0 :: st) h Q) : E X d LW_law 619 [a0, .ref 0, a2, a3] st h Q := Ev.aload_n (by decide +kernel : decode LW_law.2.1 619 = .ok (.aload_n 1, 1)) rfl rfl kk
set_option maxRecDepth 20000 in
theorem LW_law_620 {X : SX} {d : Nat} {st : List Value} {h : HH} {Q : Int32 → HH → Prop} {a1 a2 a3 : Value}   (kk : E X d LW_law 621 [.ref 1003, a1, a2, a3] (.ref 1003 :: st) h Q) : E X d LW_law 620 [.ref 1003, a1, a2, a3] st h Q := Ev.aload_n (by decide +kernel : decode LW_law.2.1 620 = .ok (.aload_n 0, 1)) rfl rfl kk
set_option maxRecDepth 20000 in
theorem LW_law_621 {X : SX} {d : Nat} {st : List Value} {h : HH} {Q : Int32 → HH → Prop} {a0 a1 a2 : Value} {x : Int32}  (kk : E X d LW_law 622 [a0, a1, a2, .int x] (.int x :: st) h Q) : E X d LW_law 621 [a0, a1, a2, .int x] st h Q := Ev.iload_n (by decide +kernel : decode LW_law.2.1 621 = .ok (.iload_n 3, 1)) rfl rfl kk
set_option maxRecDepth 20000 in
theorem LW_law_622 {X : SX} {d : Nat} {L : List Value} {st : List Value} {h : HH} {Q : Int32 → HH → Prop}   (kk : E X d LW_law 623 L (.int 1 :: st) h Q) : E X d LW_law 622 L st h Q := Ev.iconst (by decide +kernel : decode LW_law.2.1 622 = .ok (.iconst 1, 1)) (by decide) kk
set_option maxRecDepth 20000 in
theorem LW_law_623 {X : SX} {d : Nat} {L : List Value} {st : List Value} {h : HH} {Q : Int32 → HH → Prop} {x z : Int32}  (kk : E X d LW_law 624 L (.int (x + z) :: st) h Q) : E X d LW_law 623 L (.int z :: .int x :: st) h Q := Ev.iadd (by decide +kernel : decode LW_law.2.1 623 = .ok (.iadd, 1)) kk
set_option maxRecDepth 20000 in
theorem LW_law_624 {X : SX} {d : Nat} {L : List Value} {st : List Value} {h : HH} {Q : Int32 → HH → Prop} {i : Int32} (hi : vp_in i X.1) (kk : E X d LW_law 625 L (.int (X.2 i.toNatClampNeg) :: st) h Q) : E X d LW_law 624 L (.int i :: .ref 1003 :: st) h Q := Ev.tScript (by decide +kernel : decode LW_law.2.1 624 = .ok (.iaload, 1)) hi kk
set_option maxRecDepth 20000 in
theorem LW_law_625 {X : SX} {d : Nat} {st : List Value} {h : HH} {Q : Int32 → HH → Prop} {a1 a2 a3 : Value}   (kk : E X d LW_law 626 [.ref 1003, a1, a2, a3] (.ref 1003 :: st) h Q) : E X d LW_law 625 [.ref 1003, a1, a2, a3] st h Q := Ev.aload_n (by decide +kernel : decode LW_law.2.1 625 = .ok (.aload_n 0, 1)) rfl rfl kk
set_option maxRecDepth 20000 in
theorem LW_law_626 {X : SX} {d : Nat} {st : List Value} {h : HH} {Q : Int32 → HH → Prop} {a0 a1 a2 : Value} {x : Int32}  (kk : E X d LW_law 627 [a0, a1, a2, .int x] (.int x :: st) h Q) : E X d LW_law 626 [a0, a1, a2, .int x] st h Q := Ev.iload_n (by decide +kernel : decode LW_law.2.1 626 = .ok (.iload_n 3, 1)) rfl rfl kk
set_option maxRecDepth 20000 in
theorem LW_law_627 {X : SX} {d : Nat} {L : List Value} {st : List Value} {h : HH} {Q : Int32 → HH → Prop}   (kk : E X d LW_law 628 L (.int 2 :: st) h Q) : E X d LW_law 627 L st h Q := Ev.iconst (by decide +kernel : decode LW_law.2.1 627 = .ok (.iconst 2, 1)) (by decide) kk
set_option maxRecDepth 20000 in
theorem LW_law_628 {X : SX} {d : Nat} {L : List Value} {st : List Value} {h : HH} {Q : Int32 → HH → Prop} {x z : Int32}  (kk : E X d LW_law 629 L (.int (x + z) :: st) h Q) : E X d LW_law 628 L (.int z :: .int x :: st) h Q := Ev.iadd (by decide +kernel : decode LW_law.2.1 628 = .ok (.iadd, 1)) kk
set_option maxRecDepth 20000 in
theorem LW_law_629 {X : SX} {d : Nat} {L : List Value} {st : List Value} {h : HH} {Q : Int32 → HH → Prop} {i : Int32} (hi : vp_in i X.1) (kk : E X d LW_law 630 L (.int (X.2 i.toNatClampNeg) :: st) h Q) : E X d LW_law 629 L (.int i :: .ref 1003 :: st) h Q := Ev.tScript (by decide +kernel : decode LW_law.2.1 629 = .ok (.iaload, 1)) hi kk
set_option maxRecDepth 20000 in
theorem LW_law_630 {X : SX} {d : Nat} {st : List Value} {h : HH} {Q : Int32 → HH → Prop} {a1 a2 a3 : Value}   (kk : E X d LW_law 631 [.ref 1003, a1, a2, a3] (.ref 1003 :: st) h Q) : E X d LW_law 630 [.ref 1003, a1, a2, a3] st h Q := Ev.aload_n (by decide +kernel : decode LW_law.2.1 630 = .ok (.aload_n 0, 1)) rfl rfl kk
set_option maxRecDepth 20000 in
theorem LW_law_631 {X : SX} {d : Nat} {st : List Value} {h : HH} {Q : Int32 → HH → Prop} {a0 a1 a2 : Value} {x : Int32}  (kk : E X d LW_law 632 [a0, a1, a2, .int x] (.int x :: st) h Q) : E X d LW_law 631 [a0, a1, a2, .int x] st h Q := Ev.iload_n (by decide +kernel : decode LW_law.2.1 631 = .ok (.iload_n 3, 1)) rfl rfl kk
set_option maxRecDepth 20000 in
theorem LW_law_632 {X : SX} {d : Nat} {L : List Value} {st : List Value} {h : HH} {Q : Int32 → HH → Prop}   (kk : E X d LW_law 633 L (.int 3 :: st) h Q) : E X d LW_law 632 L st h Q := Ev.iconst (by decide +kernel : decode LW_law.2.1 632 = .ok (.iconst 3, 1)) (by decide) kk
set_option maxRecDepth 20000 in
theorem LW_law_633 {X : SX} {d : Nat} {L : List Value} {st : List Value} {h : HH} {Q : Int32 → HH → Prop} {x z : Int32}  (kk : E X d LW_law 634 L (.int (x + z) :: st) h Q) : E X d LW_law 633 L (.int z :: .int x :: st) h Q := Ev.iadd (by decide +kernel : decode LW_law.2.1 633 = .ok (.iadd, 1)) kk
set_option maxRecDepth 20000 in
theorem LW_law_634 {X : SX} {d : Nat} {L : List Value} {st : List Value} {h : HH} {Q : Int32 → HH → Prop} {i : Int32} (hi : vp_in i X.1) (kk : E X d LW_law 635 L (.int (X.2 i.toNatClampNeg) :: st) h Q) : E X d LW_law 634 L (.int i :: .ref 1003 :: st) h Q := Ev.tScript (by decide +kernel : decode LW_law.2.1 634 = .ok (.iaload, 1)) hi kk
set_option maxRecDepth 20000 in
theorem LW_law_635 {X : SX} {d : Nat} {L : List Value} {st : List Value} {h : HH} {Q : Int32 → HH → Prop} {b0 : Int32} {b1 : Int32} {b2 : Int32}   (hc : (st.map (fun v => v.category)).sum ≤ 8) (kk : E X d FC_bring 0 [.ref 0, .int b0, .int b1, .int b2] [] h (fun x h' => E X (d + 1) LW_law 638 L (.int x :: st) h' Q)) : E X (d + 1) LW_law 635 L (.int b2 :: .int b1 :: .int b0 :: .ref 0 :: st) h Q := E.callVi (n := 3) (ix := 63) (args := [.int b0, .int b1, .int b2]) (by decide +kernel : decode LW_law.2.1 635 = .ok (.invokevirtual 63, 3)) FC_bring_ok rfl rfl rfl wd_530 wd_531 wd_532 rfl FC_bring_ds (Nat.le_of_ble_eq_true rfl) hc (by decide) kk
set_option maxRecDepth 20000 in
theorem LW_law_638 {X : SX} {d : Nat} {st : List Value} {h : HH} {Q : Int32 → HH → Prop} {a0 a1 a3 : Value}   (kk : E X d LW_law 639 [a0, a1, .ref 57, a3] (.ref 57 :: st) h Q) : E X d LW_law 638 [a0, a1, .ref 57, a3] st h Q := Ev.aload_n (by decide +kernel : decode LW_law.2.1 638 = .ok (.aload_n 2, 1)) rfl rfl kk
set_option maxRecDepth 20000 in
theorem LW_law_639 {X : SX} {d : Nat} {st : List Value} {h : HH} {Q : Int32 → HH → Prop} {a1 a2 a3 : Value}   (kk : E X d LW_law 640 [.ref 1003, a1, a2, a3] (.ref 1003 :: st) h Q) : E X d LW_law 639 [.ref 1003, a1, a2, a3] st h Q := Ev.aload_n (by decide +kernel : decode LW_law.2.1 639 = .ok (.aload_n 0, 1)) rfl rfl kk
set_option maxRecDepth 20000 in
theorem LW_law_640 {X : SX} {d : Nat} {st : List Value} {h : HH} {Q : Int32 → HH → Prop} {a0 a1 a2 : Value} {x : Int32}  (kk : E X d LW_law 641 [a0, a1, a2, .int x] (.int x :: st) h Q) : E X d LW_law 640 [a0, a1, a2, .int x] st h Q := Ev.iload_n (by decide +kernel : decode LW_law.2.1 640 = .ok (.iload_n 3, 1)) rfl rfl kk
set_option maxRecDepth 20000 in
theorem LW_law_641 {X : SX} {d : Nat} {L : List Value} {st : List Value} {h : HH} {Q : Int32 → HH → Prop}   (kk : E X d LW_law 642 L (.int 1 :: st) h Q) : E X d LW_law 641 L st h Q := Ev.iconst (by decide +kernel : decode LW_law.2.1 641 = .ok (.iconst 1, 1)) (by decide) kk
set_option maxRecDepth 20000 in
theorem LW_law_642 {X : SX} {d : Nat} {L : List Value} {st : List Value} {h : HH} {Q : Int32 → HH → Prop} {x z : Int32}  (kk : E X d LW_law 643 L (.int (x + z) :: st) h Q) : E X d LW_law 642 L (.int z :: .int x :: st) h Q := Ev.iadd (by decide +kernel : decode LW_law.2.1 642 = .ok (.iadd, 1)) kk
set_option maxRecDepth 20000 in
theorem LW_law_643 {X : SX} {d : Nat} {L : List Value} {st : List Value} {h : HH} {Q : Int32 → HH → Prop} {i : Int32} (hi : vp_in i X.1) (kk : E X d LW_law 644 L (.int (X.2 i.toNatClampNeg) :: st) h Q) : E X d LW_law 643 L (.int i :: .ref 1003 :: st) h Q := Ev.tScript (by decide +kernel : decode LW_law.2.1 643 = .ok (.iaload, 1)) hi kk
set_option maxRecDepth 20000 in
theorem LW_law_644 {X : SX} {d : Nat} {st : List Value} {h : HH} {Q : Int32 → HH → Prop} {a1 a2 a3 : Value}   (kk : E X d LW_law 645 [.ref 1003, a1, a2, a3] (.ref 1003 :: st) h Q) : E X d LW_law 644 [.ref 1003, a1, a2, a3] st h Q := Ev.aload_n (by decide +kernel : decode LW_law.2.1 644 = .ok (.aload_n 0, 1)) rfl rfl kk
set_option maxRecDepth 20000 in
theorem LW_law_645 {X : SX} {d : Nat} {st : List Value} {h : HH} {Q : Int32 → HH → Prop} {a0 a1 a2 : Value} {x : Int32}  (kk : E X d LW_law 646 [a0, a1, a2, .int x] (.int x :: st) h Q) : E X d LW_law 645 [a0, a1, a2, .int x] st h Q := Ev.iload_n (by decide +kernel : decode LW_law.2.1 645 = .ok (.iload_n 3, 1)) rfl rfl kk
set_option maxRecDepth 20000 in
theorem LW_law_646 {X : SX} {d : Nat} {L : List Value} {st : List Value} {h : HH} {Q : Int32 → HH → Prop}   (kk : E X d LW_law 647 L (.int 2 :: st) h Q) : E X d LW_law 646 L st h Q := Ev.iconst (by decide +kernel : decode LW_law.2.1 646 = .ok (.iconst 2, 1)) (by decide) kk
set_option maxRecDepth 20000 in
theorem LW_law_647 {X : SX} {d : Nat} {L : List Value} {st : List Value} {h : HH} {Q : Int32 → HH → Prop} {x z : Int32}  (kk : E X d LW_law 648 L (.int (x + z) :: st) h Q) : E X d LW_law 647 L (.int z :: .int x :: st) h Q := Ev.iadd (by decide +kernel : decode LW_law.2.1 647 = .ok (.iadd, 1)) kk
set_option maxRecDepth 20000 in
theorem LW_law_648 {X : SX} {d : Nat} {L : List Value} {st : List Value} {h : HH} {Q : Int32 → HH → Prop} {i : Int32} (hi : vp_in i X.1) (kk : E X d LW_law 649 L (.int (X.2 i.toNatClampNeg) :: st) h Q) : E X d LW_law 648 L (.int i :: .ref 1003 :: st) h Q := Ev.tScript (by decide +kernel : decode LW_law.2.1 648 = .ok (.iaload, 1)) hi kk
set_option maxRecDepth 20000 in
theorem LW_law_649 {X : SX} {d : Nat} {st : List Value} {h : HH} {Q : Int32 → HH → Prop} {a1 a2 a3 : Value}   (kk : E X d LW_law 650 [.ref 1003, a1, a2, a3] (.ref 1003 :: st) h Q) : E X d LW_law 649 [.ref 1003, a1, a2, a3] st h Q := Ev.aload_n (by decide +kernel : decode LW_law.2.1 649 = .ok (.aload_n 0, 1)) rfl rfl kk
set_option maxRecDepth 20000 in
theorem LW_law_650 {X : SX} {d : Nat} {st : List Value} {h : HH} {Q : Int32 → HH → Prop} {a0 a1 a2 : Value} {x : Int32}  (kk : E X d LW_law 651 [a0, a1, a2, .int x] (.int x :: st) h Q) : E X d LW_law 650 [a0, a1, a2, .int x] st h Q := Ev.iload_n (by decide +kernel : decode LW_law.2.1 650 = .ok (.iload_n 3, 1)) rfl rfl kk
set_option maxRecDepth 20000 in
theorem LW_law_651 {X : SX} {d : Nat} {L : List Value} {st : List Value} {h : HH} {Q : Int32 → HH → Prop}   (kk : E X d LW_law 652 L (.int 3 :: st) h Q) : E X d LW_law 651 L st h Q := Ev.iconst (by decide +kernel : decode LW_law.2.1 651 = .ok (.iconst 3, 1)) (by decide) kk
set_option maxRecDepth 20000 in
theorem LW_law_652 {X : SX} {d : Nat} {L : List Value} {st : List Value} {h : HH} {Q : Int32 → HH → Prop} {x z : Int32}  (kk : E X d LW_law 653 L (.int (x + z) :: st) h Q) : E X d LW_law 652 L (.int z :: .int x :: st) h Q := Ev.iadd (by decide +kernel : decode LW_law.2.1 652 = .ok (.iadd, 1)) kk
set_option maxRecDepth 20000 in
theorem LW_law_653 {X : SX} {d : Nat} {L : List Value} {st : List Value} {h : HH} {Q : Int32 → HH → Prop} {i : Int32} (hi : vp_in i X.1) (kk : E X d LW_law 654 L (.int (X.2 i.toNatClampNeg) :: st) h Q) : E X d LW_law 653 L (.int i :: .ref 1003 :: st) h Q := Ev.tScript (by decide +kernel : decode LW_law.2.1 653 = .ok (.iaload, 1)) hi kk
set_option maxRecDepth 20000 in
theorem LW_law_654 {X : SX} {d : Nat} {L : List Value} {st : List Value} {h : HH} {Q : Int32 → HH → Prop} {b0 : Int32} {b1 : Int32} {b2 : Int32}   (hc : (st.map (fun v => v.category)).sum ≤ 8) (kk : E X d FM_bring 0 [.ref 57, .int b0, .int b1, .int b2, U0, U0] [] h (fun x h' => E X (d + 1) LW_law 657 L (.int x :: st) h' Q)) : E X (d + 1) LW_law 654 L (.int b2 :: .int b1 :: .int b0 :: .ref 57 :: st) h Q := E.callVi (n := 3) (ix := 66) (args := [.int b0, .int b1, .int b2]) (by decide +kernel : decode LW_law.2.1 654 = .ok (.invokevirtual 66, 3)) FM_bring_ok rfl rfl rfl wd_1212 wd_1213 wd_1214 rfl FM_bring_ds (Nat.le_of_ble_eq_true rfl) hc (by decide) kk
set_option maxRecDepth 20000 in
theorem LW_law_657 {X : SX} {d : Nat} {L : List Value} {st : List Value} {h : HH} {Q : Int32 → HH → Prop} {x z : Int32}  (kt : x = z → E X d LW_law 1477 L st h Q) (kf : ¬ x = z → E X d LW_law 660 L st h Q) : E X d LW_law 657 L (.int z :: .int x :: st) h Q := Ev.icmp_eq (tgt := 1477) (by decide +kernel : decode LW_law.2.1 657 = .ok (.if_icmp .eq 820, 3)) (by decide) kt kf
set_option maxRecDepth 20000 in
theorem LW_law_660 {X : SX} {d : Nat} {L : List Value} {st : List Value} {h : HH} {Q : Int32 → HH → Prop}   (kk : E X d LW_law 661 L (.int 0 :: st) h Q) : E X d LW_law 660 L st h Q := Ev.iconst (by decide +kernel : decode LW_law.2.1 660 = .ok (.iconst 0, 1)) (by decide) kk
set_option maxRecDepth 20000 in
theorem LW_law_661 {X : SX} {d : Nat} {L : List Value} {h : HH} {Q : Int32 → HH → Prop} {x : Int32} (hb : narrow .boolean (.int x) = .int x) (hq : Q x h)  : E X d LW_law 661 L [.int x] h Q := Ev.ireturn (by decide +kernel : decode LW_law.2.1 661 = .ok (.ireturn, 1)) rfl hb ⟨rfl, hq⟩
set_option maxRecDepth 20000 in
theorem LW_law_662 {X : SX} {d : Nat} {st : List Value} {h : HH} {Q : Int32 → HH → Prop} {a0 a2 a3 : Value}   (kk : E X d LW_law 663 [a0, .ref 0, a2, a3] (.ref 0 :: st) h Q) : E X d LW_law 662 [a0, .ref 0, a2, a3] st h Q := Ev.aload_n (by decide +kernel : decode LW_law.2.1 662 = .ok (.aload_n 1, 1)) rfl rfl kk
set_option maxRecDepth 20000 in
theorem LW_law_663 {X : SX} {d : Nat} {L : List Value} {st : List Value} {h : HH} {Q : Int32 → HH → Prop}   (hc : (st.map (fun v => v.category)).sum ≤ 8) (kk : E X d FC_image 0 [.ref 0] [] h (fun x h' => E X (d + 1) LW_law 666 L (.int x :: st) h' Q)) : E X (d + 1) LW_law 663 L (.ref 0 :: st) h Q := E.callVi (n := 0) (ix := 67) (args := []) (by decide +kernel : decode LW_law.2.1 663 = .ok (.invokevirtual 67, 3)) FC_image_ok rfl rfl rfl wd_592 wd_593 wd_594 rfl FC_image_ds (Nat.le_of_ble_eq_true rfl) hc (by decide) kk
set_option maxRecDepth 20000 in
theorem LW_law_666 {X : SX} {d : Nat} {st : List Value} {h : HH} {Q : Int32 → HH → Prop} {a0 a1 a3 : Value}   (kk : E X d LW_law 667 [a0, a1, .ref 57, a3] (.ref 57 :: st) h Q) : E X d LW_law 666 [a0, a1, .ref 57, a3] st h Q := Ev.aload_n (by decide +kernel : decode LW_law.2.1 666 = .ok (.aload_n 2, 1)) rfl rfl kk
set_option maxRecDepth 20000 in
theorem LW_law_667 {X : SX} {d : Nat} {L : List Value} {st : List Value} {h : HH} {Q : Int32 → HH → Prop}   (hc : (st.map (fun v => v.category)).sum ≤ 8) (kk : E X d FM_image 0 [.ref 57, U0] [] h (fun x h' => E X (d + 1) LW_law 670 L (.int x :: st) h' Q)) : E X (d + 1) LW_law 667 L (.ref 57 :: st) h Q := E.callVi (n := 0) (ix := 70) (args := []) (by decide +kernel : decode LW_law.2.1 667 = .ok (.invokevirtual 70, 3)) FM_image_ok rfl rfl rfl wd_1247 wd_1248 wd_1249 rfl FM_image_ds (Nat.le_of_ble_eq_true rfl) hc (by decide) kk
set_option maxRecDepth 20000 in
theorem LW_law_670 {X : SX} {d : Nat} {L : List Value} {st : List Value} {h : HH} {Q : Int32 → HH → Prop} {x z : Int32}  (kt : x = z → E X d LW_law 1477 L st h Q) (kf : ¬ x = z → E X d LW_law 673 L st h Q) : E X d LW_law 670 L (.int z :: .int x :: st) h Q := Ev.icmp_eq (tgt := 1477) (by decide +kernel : decode LW_law.2.1 670 = .ok (.if_icmp .eq 807, 3)) (by decide) kt kf
set_option maxRecDepth 20000 in
theorem LW_law_673 {X : SX} {d : Nat} {L : List Value} {st : List Value} {h : HH} {Q : Int32 → HH → Prop}   (kk : E X d LW_law 674 L (.int 0 :: st) h Q) : E X d LW_law 673 L st h Q := Ev.iconst (by decide +kernel : decode LW_law.2.1 673 = .ok (.iconst 0, 1)) (by decide) kk
set_option maxRecDepth 20000 in
theorem LW_law_674 {X : SX} {d : Nat} {L : List Value} {h : HH} {Q : Int32 → HH → Prop} {x : Int32} (hb : narrow .boolean (.int x) = .int x) (hq : Q x h)  : E X d LW_law 674 L [.int x] h Q := Ev.ireturn (by decide +kernel : decode LW_law.2.1 674 = .ok (.ireturn, 1)) rfl hb ⟨rfl, hq⟩
set_option maxRecDepth 20000 in
theorem LW_law_675 {X : SX} {d : Nat} {st : List Value} {h : HH} {Q : Int32 → HH → Prop} {a0 a2 a3 : Value}   (kk : E X d LW_law 676 [a0, .ref 0, a2, a3] (.ref 0 :: st) h Q) : E X d LW_law 675 [a0, .ref 0, a2, a3] st h Q := Ev.aload_n (by decide +kernel : decode LW_law.2.1 675 = .ok (.aload_n 1, 1)) rfl rfl kk
set_option maxRecDepth 20000 in
theorem LW_law_676 {X : SX} {d : Nat} {L : List Value} {st : List Value} {h : HH} {Q : Int32 → HH → Prop}   (hc : (st.map (fun v => v.category)).sum ≤ 8) (kk : E X d FC_back 0 [.ref 0] [] h (fun x h' => E X (d + 1) LW_law 679 L (.int x :: st) h' Q)) : E X (d + 1) LW_law 676 L (.ref 0 :: st) h Q := E.callVi (n := 0) (ix := 71) (args := []) (by decide +kernel : decode LW_law.2.1 676 = .ok (.invokevirtual 71, 3)) FC_back_ok rfl rfl rfl wd_626 wd_627 wd_628 rfl FC_back_ds (Nat.le_of_ble_eq_true rfl) hc (by decide) kk
set_option maxRecDepth 20000 in
theorem LW_law_679 {X : SX} {d : Nat} {st : List Value} {h : HH} {Q : Int32 → HH → Prop} {a0 a1 a3 : Value}   (kk : E X d LW_law 680 [a0, a1, .ref 57, a3] (.ref 57 :: st) h Q) : E X d LW_law 679 [a0, a1, .ref 57, a3] st h Q := Ev.aload_n (by decide +kernel : decode LW_law.2.1 679 = .ok (.aload_n 2, 1)) rfl rfl kk
set_option maxRecDepth 20000 in
theorem LW_law_680 {X : SX} {d : Nat} {L : List Value} {st : List Value} {h : HH} {Q : Int32 → HH → Prop}   (hc : (st.map (fun v => v.category)).sum ≤ 8) (kk : E X d FM_back 0 [.ref 57, U0] [] h (fun x h' => E X (d + 1) LW_law 683 L (.int x :: st) h' Q)) : E X (d + 1) LW_law 680 L (.ref 57 :: st) h Q := E.callVi (n := 0) (ix := 74) (args := []) (by decide +kernel : decode LW_law.2.1 680 = .ok (.invokevirtual 74, 3)) FM_back_ok rfl rfl rfl wd_1251 wd_1252 wd_1253 rfl FM_back_ds (Nat.le_of_ble_eq_true rfl) hc (by decide) kk
set_option maxRecDepth 20000 in
theorem LW_law_683 {X : SX} {d : Nat} {L : List Value} {st : List Value} {h : HH} {Q : Int32 → HH → Prop} {x z : Int32}  (kt : x = z → E X d LW_law 1477 L st h Q) (kf : ¬ x = z → E X d LW_law 686 L st h Q) : E X d LW_law 683 L (.int z :: .int x :: st) h Q := Ev.icmp_eq (tgt := 1477) (by decide +kernel : decode LW_law.2.1 683 = .ok (.if_icmp .eq 794, 3)) (by decide) kt kf
set_option maxRecDepth 20000 in
theorem LW_law_686 {X : SX} {d : Nat} {L : List Value} {st : List Value} {h : HH} {Q : Int32 → HH → Prop}   (kk : E X d LW_law 687 L (.int 0 :: st) h Q) : E X d LW_law 686 L st h Q := Ev.iconst (by decide +kernel : decode LW_law.2.1 686 = .ok (.iconst 0, 1)) (by decide) kk
set_option maxRecDepth 20000 in
theorem LW_law_687 {X : SX} {d : Nat} {L : List Value} {h : HH} {Q : Int32 → HH → Prop} {x : Int32} (hb : narrow .boolean (.int x) = .int x) (hq : Q x h)  : E X d LW_law 687 L [.int x] h Q := Ev.ireturn (by decide +kernel : decode LW_law.2.1 687 = .ok (.ireturn, 1)) rfl hb ⟨rfl, hq⟩
set_option maxRecDepth 20000 in
theorem LW_law_688 {X : SX} {d : Nat} {st : List Value} {h : HH} {Q : Int32 → HH → Prop} {a0 a2 a3 : Value}   (kk : E X d LW_law 689 [a0, .ref 0, a2, a3] (.ref 0 :: st) h Q) : E X d LW_law 688 [a0, .ref 0, a2, a3] st h Q := Ev.aload_n (by decide +kernel : decode LW_law.2.1 688 = .ok (.aload_n 1, 1)) rfl rfl kk
set_option maxRecDepth 20000 in
theorem LW_law_689 {X : SX} {d : Nat} {st : List Value} {h : HH} {Q : Int32 → HH → Prop} {a1 a2 a3 : Value}   (kk : E X d LW_law 690 [.ref 1003, a1, a2, a3] (.ref 1003 :: st) h Q) : E X d LW_law 689 [.ref 1003, a1, a2, a3] st h Q := Ev.aload_n (by decide +kernel : decode LW_law.2.1 689 = .ok (.aload_n 0, 1)) rfl rfl kk
set_option maxRecDepth 20000 in
theorem LW_law_690 {X : SX} {d : Nat} {st : List Value} {h : HH} {Q : Int32 → HH → Prop} {a0 a1 a2 : Value} {x : Int32}  (kk : E X d LW_law 691 [a0, a1, a2, .int x] (.int x :: st) h Q) : E X d LW_law 690 [a0, a1, a2, .int x] st h Q := Ev.iload_n (by decide +kernel : decode LW_law.2.1 690 = .ok (.iload_n 3, 1)) rfl rfl kk
set_option maxRecDepth 20000 in
theorem LW_law_691 {X : SX} {d : Nat} {L : List Value} {st : List Value} {h : HH} {Q : Int32 → HH → Prop}   (kk : E X d LW_law 692 L (.int 1 :: st) h Q) : E X d LW_law 691 L st h Q := Ev.iconst (by decide +kernel : decode LW_law.2.1 691 = .ok (.iconst 1, 1)) (by decide) kk
set_option maxRecDepth 20000 in
theorem LW_law_692 {X : SX} {d : Nat} {L : List Value} {st : List Value} {h : HH} {Q : Int32 → HH → Prop} {x z : Int32}  (kk : E X d LW_law 693 L (.int (x + z) :: st) h Q) : E X d LW_law 692 L (.int z :: .int x :: st) h Q := Ev.iadd (by decide +kernel : decode LW_law.2.1 692 = .ok (.iadd, 1)) kk
set_option maxRecDepth 20000 in
theorem LW_law_693 {X : SX} {d : Nat} {L : List Value} {st : List Value} {h : HH} {Q : Int32 → HH → Prop} {i : Int32} (hi : vp_in i X.1) (kk : E X d LW_law 694 L (.int (X.2 i.toNatClampNeg) :: st) h Q) : E X d LW_law 693 L (.int i :: .ref 1003 :: st) h Q := Ev.tScript (by decide +kernel : decode LW_law.2.1 693 = .ok (.iaload, 1)) hi kk
set_option maxRecDepth 20000 in
theorem LW_law_694 {X : SX} {d : Nat} {st : List Value} {h : HH} {Q : Int32 → HH → Prop} {a1 a2 a3 : Value}   (kk : E X d LW_law 695 [.ref 1003, a1, a2, a3] (.ref 1003 :: st) h Q) : E X d LW_law 694 [.ref 1003, a1, a2, a3] st h Q := Ev.aload_n (by decide +kernel : decode LW_law.2.1 694 = .ok (.aload_n 0, 1)) rfl rfl kk
set_option maxRecDepth 20000 in
theorem LW_law_695 {X : SX} {d : Nat} {st : List Value} {h : HH} {Q : Int32 → HH → Prop} {a0 a1 a2 : Value} {x : Int32}  (kk : E X d LW_law 696 [a0, a1, a2, .int x] (.int x :: st) h Q) : E X d LW_law 695 [a0, a1, a2, .int x] st h Q := Ev.iload_n (by decide +kernel : decode LW_law.2.1 695 = .ok (.iload_n 3, 1)) rfl rfl kk
set_option maxRecDepth 20000 in
theorem LW_law_696 {X : SX} {d : Nat} {L : List Value} {st : List Value} {h : HH} {Q : Int32 → HH → Prop}   (kk : E X d LW_law 697 L (.int 2 :: st) h Q) : E X d LW_law 696 L st h Q := Ev.iconst (by decide +kernel : decode LW_law.2.1 696 = .ok (.iconst 2, 1)) (by decide) kk
set_option maxRecDepth 20000 in
theorem LW_law_697 {X : SX} {d : Nat} {L : List Value} {st : List Value} {h : HH} {Q : Int32 → HH → Prop} {x z : Int32}  (kk : E X d LW_law 698 L (.int (x + z) :: st) h Q) : E X d LW_law 697 L (.int z :: .int x :: st) h Q := Ev.iadd (by decide +kernel : decode LW_law.2.1 697 = .ok (.iadd, 1)) kk
set_option maxRecDepth 20000 in
theorem LW_law_698 {X : SX} {d : Nat} {L : List Value} {st : List Value} {h : HH} {Q : Int32 → HH → Prop} {i : Int32} (hi : vp_in i X.1) (kk : E X d LW_law 699 L (.int (X.2 i.toNatClampNeg) :: st) h Q) : E X d LW_law 698 L (.int i :: .ref 1003 :: st) h Q := Ev.tScript (by decide +kernel : decode LW_law.2.1 698 = .ok (.iaload, 1)) hi kk
set_option maxRecDepth 20000 in
theorem LW_law_699 {X : SX} {d : Nat} {L : List Value} {st : List Value} {h : HH} {Q : Int32 → HH → Prop} {b0 : Int32} {b1 : Int32}   (hc : (st.map (fun v => v.category)).sum ≤ 8) (kk : E X d FC_told 0 [.ref 0, .int b0, .int b1] [] h (fun x h' => E X (d + 1) LW_law 702 L (.int x :: st) h' Q)) : E X (d + 1) LW_law 699 L (.int b1 :: .int b0 :: .ref 0 :: st) h Q := E.callVi (n := 2) (ix := 75) (args := [.int b0, .int b1]) (by decide +kernel : decode LW_law.2.1 699 = .ok (.invokevirtual 75, 3)) FC_told_ok rfl rfl rfl wd_630 wd_631 wd_632 rfl FC_told_ds (Nat.le_of_ble_eq_true rfl) hc (by decide) kk
set_option maxRecDepth 20000 in
theorem LW_law_702 {X : SX} {d : Nat} {st : List Value} {h : HH} {Q : Int32 → HH → Prop} {a0 a1 a3 : Value}   (kk : E X d LW_law 703 [a0, a1, .ref 57, a3] (.ref 57 :: st) h Q) : E X d LW_law 702 [a0, a1, .ref 57, a3] st h Q := Ev.aload_n (by decide +kernel : decode LW_law.2.1 702 = .ok (.aload_n 2, 1)) rfl rfl kk
set_option maxRecDepth 20000 in
theorem LW_law_703 {X : SX} {d : Nat} {st : List Value} {h : HH} {Q : Int32 → HH → Prop} {a1 a2 a3 : Value}   (kk : E X d LW_law 704 [.ref 1003, a1, a2, a3] (.ref 1003 :: st) h Q) : E X d LW_law 703 [.ref 1003, a1, a2, a3] st h Q := Ev.aload_n (by decide +kernel : decode LW_law.2.1 703 = .ok (.aload_n 0, 1)) rfl rfl kk
set_option maxRecDepth 20000 in
theorem LW_law_704 {X : SX} {d : Nat} {st : List Value} {h : HH} {Q : Int32 → HH → Prop} {a0 a1 a2 : Value} {x : Int32}  (kk : E X d LW_law 705 [a0, a1, a2, .int x] (.int x :: st) h Q) : E X d LW_law 704 [a0, a1, a2, .int x] st h Q := Ev.iload_n (by decide +kernel : decode LW_law.2.1 704 = .ok (.iload_n 3, 1)) rfl rfl kk
set_option maxRecDepth 20000 in
theorem LW_law_705 {X : SX} {d : Nat} {L : List Value} {st : List Value} {h : HH} {Q : Int32 → HH → Prop}   (kk : E X d LW_law 706 L (.int 1 :: st) h Q) : E X d LW_law 705 L st h Q := Ev.iconst (by decide +kernel : decode LW_law.2.1 705 = .ok (.iconst 1, 1)) (by decide) kk
set_option maxRecDepth 20000 in
theorem LW_law_706 {X : SX} {d : Nat} {L : List Value} {st : List Value} {h : HH} {Q : Int32 → HH → Prop} {x z : Int32}  (kk : E X d LW_law 707 L (.int (x + z) :: st) h Q) : E X d LW_law 706 L (.int z :: .int x :: st) h Q := Ev.iadd (by decide +kernel : decode LW_law.2.1 706 = .ok (.iadd, 1)) kk
set_option maxRecDepth 20000 in
theorem LW_law_707 {X : SX} {d : Nat} {L : List Value} {st : List Value} {h : HH} {Q : Int32 → HH → Prop} {i : Int32} (hi : vp_in i X.1) (kk : E X d LW_law 708 L (.int (X.2 i.toNatClampNeg) :: st) h Q) : E X d LW_law 707 L (.int i :: .ref 1003 :: st) h Q := Ev.tScript (by decide +kernel : decode LW_law.2.1 707 = .ok (.iaload, 1)) hi kk
set_option maxRecDepth 20000 in
theorem LW_law_708 {X : SX} {d : Nat} {st : List Value} {h : HH} {Q : Int32 → HH → Prop} {a1 a2 a3 : Value}   (kk : E X d LW_law 709 [.ref 1003, a1, a2, a3] (.ref 1003 :: st) h Q) : E X d LW_law 708 [.ref 1003, a1, a2, a3] st h Q := Ev.aload_n (by decide +kernel : decode LW_law.2.1 708 = .ok (.aload_n 0, 1)) rfl rfl kk
set_option maxRecDepth 20000 in
theorem LW_law_709 {X : SX} {d : Nat} {st : List Value} {h : HH} {Q : Int32 → HH → Prop} {a0 a1 a2 : Value} {x : Int32}  (kk : E X d LW_law 710 [a0, a1, a2, .int x] (.int x :: st) h Q) : E X d LW_law 709 [a0, a1, a2, .int x] st h Q := Ev.iload_n (by decide +kernel : decode LW_law.2.1 709 = .ok (.iload_n 3, 1)) rfl rfl kk
set_option maxRecDepth 20000 in
theorem LW_law_710 {X : SX} {d : Nat} {L : List Value} {st : List Value} {h : HH} {Q : Int32 → HH → Prop}   (kk : E X d LW_law 711 L (.int 2 :: st) h Q) : E X d LW_law 710 L st h Q := Ev.iconst (by decide +kernel : decode LW_law.2.1 710 = .ok (.iconst 2, 1)) (by decide) kk
set_option maxRecDepth 20000 in
theorem LW_law_711 {X : SX} {d : Nat} {L : List Value} {st : List Value} {h : HH} {Q : Int32 → HH → Prop} {x z : Int32}  (kk : E X d LW_law 712 L (.int (x + z) :: st) h Q) : E X d LW_law 711 L (.int z :: .int x :: st) h Q := Ev.iadd (by decide +kernel : decode LW_law.2.1 711 = .ok (.iadd, 1)) kk
set_option maxRecDepth 20000 in
theorem LW_law_712 {X : SX} {d : Nat} {L : List Value} {st : List Value} {h : HH} {Q : Int32 → HH → Prop} {i : Int32} (hi : vp_in i X.1) (kk : E X d LW_law 713 L (.int (X.2 i.toNatClampNeg) :: st) h Q) : E X d LW_law 712 L (.int i :: .ref 1003 :: st) h Q := Ev.tScript (by decide +kernel : decode LW_law.2.1 712 = .ok (.iaload, 1)) hi kk
set_option maxRecDepth 20000 in
theorem LW_law_713 {X : SX} {d : Nat} {L : List Value} {st : List Value} {h : HH} {Q : Int32 → HH → Prop} {b0 : Int32} {b1 : Int32}   (hc : (st.map (fun v => v.category)).sum ≤ 8) (kk : E X d FM_told 0 [.ref 57, .int b0, .int b1] [] h (fun x h' => E X (d + 1) LW_law 716 L (.int x :: st) h' Q)) : E X (d + 1) LW_law 713 L (.int b1 :: .int b0 :: .ref 57 :: st) h Q := E.callVi (n := 2) (ix := 78) (args := [.int b0, .int b1]) (by decide +kernel : decode LW_law.2.1 713 = .ok (.invokevirtual 78, 3)) FM_told_ok rfl rfl rfl wd_1255 wd_1256 wd_1257 rfl FM_told_ds (Nat.le_of_ble_eq_true rfl) hc (by decide) kk
set_option maxRecDepth 20000 in
theorem LW_law_716 {X : SX} {d : Nat} {L : List Value} {st : List Value} {h : HH} {Q : Int32 → HH → Prop} {x z : Int32}  (kt : x = z → E X d LW_law 1477 L st h Q) (kf : ¬ x = z → E X d LW_law 719 L st h Q) : E X d LW_law 716 L (.int z :: .int x :: st) h Q := Ev.icmp_eq (tgt := 1477) (by decide +kernel : decode LW_law.2.1 716 = .ok (.if_icmp .eq 761, 3)) (by decide) kt kf
set_option maxRecDepth 20000 in
theorem LW_law_719 {X : SX} {d : Nat} {L : List Value} {st : List Value} {h : HH} {Q : Int32 → HH → Prop}   (kk : E X d LW_law 720 L (.int 0 :: st) h Q) : E X d LW_law 719 L st h Q := Ev.iconst (by decide +kernel : decode LW_law.2.1 719 = .ok (.iconst 0, 1)) (by decide) kk
set_option maxRecDepth 20000 in
theorem LW_law_720 {X : SX} {d : Nat} {L : List Value} {h : HH} {Q : Int32 → HH → Prop} {x : Int32} (hb : narrow .boolean (.int x) = .int x) (hq : Q x h)  : E X d LW_law 720 L [.int x] h Q := Ev.ireturn (by decide +kernel : decode LW_law.2.1 720 = .ok (.ireturn, 1)) rfl hb ⟨rfl, hq⟩
set_option maxRecDepth 20000 in
theorem LW_law_721 {X : SX} {d : Nat} {st : List Value} {h : HH} {Q : Int32 → HH → Prop} {a0 a2 a3 : Value}   (kk : E X d LW_law 722 [a0, .ref 0, a2, a3] (.ref 0 :: st) h Q) : E X d LW_law 721 [a0, .ref 0, a2, a3] st h Q := Ev.aload_n (by decide +kernel : decode LW_law.2.1 721 = .ok (.aload_n 1, 1)) rfl rfl kk
set_option maxRecDepth 20000 in
theorem LW_law_722 {X : SX} {d : Nat} {st : List Value} {h : HH} {Q : Int32 → HH → Prop} {a1 a2 a3 : Value}   (kk : E X d LW_law 723 [.ref 1003, a1, a2, a3] (.ref 1003 :: st) h Q) : E X d LW_law 722 [.ref 1003, a1, a2, a3] st h Q := Ev.aload_n (by decide +kernel : decode LW_law.2.1 722 = .ok (.aload_n 0, 1)) rfl rfl kk
set_option maxRecDepth 20000 in
theorem LW_law_723 {X : SX} {d : Nat} {st : List Value} {h : HH} {Q : Int32 → HH → Prop} {a0 a1 a2 : Value} {x : Int32}  (kk : E X d LW_law 724 [a0, a1, a2, .int x] (.int x :: st) h Q) : E X d LW_law 723 [a0, a1, a2, .int x] st h Q := Ev.iload_n (by decide +kernel : decode LW_law.2.1 723 = .ok (.iload_n 3, 1)) rfl rfl kk
set_option maxRecDepth 20000 in
theorem LW_law_724 {X : SX} {d : Nat} {L : List Value} {st : List Value} {h : HH} {Q : Int32 → HH → Prop}   (kk : E X d LW_law 725 L (.int 1 :: st) h Q) : E X d LW_law 724 L st h Q := Ev.iconst (by decide +kernel : decode LW_law.2.1 724 = .ok (.iconst 1, 1)) (by decide) kk
set_option maxRecDepth 20000 in
theorem LW_law_725 {X : SX} {d : Nat} {L : List Value} {st : List Value} {h : HH} {Q : Int32 → HH → Prop} {x z : Int32}  (kk : E X d LW_law 726 L (.int (x + z) :: st) h Q) : E X d LW_law 725 L (.int z :: .int x :: st) h Q := Ev.iadd (by decide +kernel : decode LW_law.2.1 725 = .ok (.iadd, 1)) kk
set_option maxRecDepth 20000 in
theorem LW_law_726 {X : SX} {d : Nat} {L : List Value} {st : List Value} {h : HH} {Q : Int32 → HH → Prop} {i : Int32} (hi : vp_in i X.1) (kk : E X d LW_law 727 L (.int (X.2 i.toNatClampNeg) :: st) h Q) : E X d LW_law 726 L (.int i :: .ref 1003 :: st) h Q := Ev.tScript (by decide +kernel : decode LW_law.2.1 726 = .ok (.iaload, 1)) hi kk
set_option maxRecDepth 20000 in
theorem LW_law_727 {X : SX} {d : Nat} {st : List Value} {h : HH} {Q : Int32 → HH → Prop} {a1 a2 a3 : Value}   (kk : E X d LW_law 728 [.ref 1003, a1, a2, a3] (.ref 1003 :: st) h Q) : E X d LW_law 727 [.ref 1003, a1, a2, a3] st h Q := Ev.aload_n (by decide +kernel : decode LW_law.2.1 727 = .ok (.aload_n 0, 1)) rfl rfl kk
set_option maxRecDepth 20000 in
theorem LW_law_728 {X : SX} {d : Nat} {st : List Value} {h : HH} {Q : Int32 → HH → Prop} {a0 a1 a2 : Value} {x : Int32}  (kk : E X d LW_law 729 [a0, a1, a2, .int x] (.int x :: st) h Q) : E X d LW_law 728 [a0, a1, a2, .int x] st h Q := Ev.iload_n (by decide +kernel : decode LW_law.2.1 728 = .ok (.iload_n 3, 1)) rfl rfl kk
set_option maxRecDepth 20000 in
theorem LW_law_729 {X : SX} {d : Nat} {L : List Value} {st : List Value} {h : HH} {Q : Int32 → HH → Prop}   (kk : E X d LW_law 730 L (.int 2 :: st) h Q) : E X d LW_law 729 L st h Q := Ev.iconst (by decide +kernel : decode LW_law.2.1 729 = .ok (.iconst 2, 1)) (by decide) kk
set_option maxRecDepth 20000 in
theorem LW_law_730 {X : SX} {d : Nat} {L : List Value} {st : List Value} {h : HH} {Q : Int32 → HH → Prop} {x z : Int32}  (kk : E X d LW_law 731 L (.int (x + z) :: st) h Q) : E X d LW_law 730 L (.int z :: .int x :: st) h Q := Ev.iadd (by decide +kernel : decode LW_law.2.1 730 = .ok (.iadd, 1)) kk
set_option maxRecDepth 20000 in
theorem LW_law_731 {X : SX} {d : Nat} {L : List Value} {st : List Value} {h : HH} {Q : Int32 → HH → Prop} {i : Int32} (hi : vp_in i X.1) (kk : E X d LW_law 732 L (.int (X.2 i.toNatClampNeg) :: st) h Q) : E X d LW_law 731 L (.int i :: .ref 1003 :: st) h Q := Ev.tScript (by decide +kernel : decode LW_law.2.1 731 = .ok (.iaload, 1)) hi kk
set_option maxRecDepth 20000 in
theorem LW_law_732 {X : SX} {d : Nat} {st : List Value} {h : HH} {Q : Int32 → HH → Prop} {a1 a2 a3 : Value}   (kk : E X d LW_law 733 [.ref 1003, a1, a2, a3] (.ref 1003 :: st) h Q) : E X d LW_law 732 [.ref 1003, a1, a2, a3] st h Q := Ev.aload_n (by decide +kernel : decode LW_law.2.1 732 = .ok (.aload_n 0, 1)) rfl rfl kk
set_option maxRecDepth 20000 in
theorem LW_law_733 {X : SX} {d : Nat} {st : List Value} {h : HH} {Q : Int32 → HH → Prop} {a0 a1 a2 : Value} {x : Int32}  (kk : E X d LW_law 734 [a0, a1, a2, .int x] (.int x :: st) h Q) : E X d LW_law 733 [a0, a1, a2, .int x] st h Q := Ev.iload_n (by decide +kernel : decode LW_law.2.1 733 = .ok (.iload_n 3, 1)) rfl rfl kk
set_option maxRecDepth 20000 in
theorem LW_law_734 {X : SX} {d : Nat} {L : List Value} {st : List Value} {h : HH} {Q : Int32 → HH → Prop}   (kk : E X d LW_law 735 L (.int 3 :: st) h Q) : E X d LW_law 734 L st h Q := Ev.iconst (by decide +kernel : decode LW_law.2.1 734 = .ok (.iconst 3, 1)) (by decide) kk
set_option maxRecDepth 20000 in
theorem LW_law_735 {X : SX} {d : Nat} {L : List Value} {st : List Value} {h : HH} {Q : Int32 → HH → Prop} {x z : Int32}  (kk : E X d LW_law 736 L (.int (x + z) :: st) h Q) : E X d LW_law 735 L (.int z :: .int x :: st) h Q := Ev.iadd (by decide +kernel : decode LW_law.2.1 735 = .ok (.iadd, 1)) kk
set_option maxRecDepth 20000 in
theorem LW_law_736 {X : SX} {d : Nat} {L : List Value} {st : List Value} {h : HH} {Q : Int32 → HH → Prop} {i : Int32} (hi : vp_in i X.1) (kk : E X d LW_law 737 L (.int (X.2 i.toNatClampNeg) :: st) h Q) : E X d LW_law 736 L (.int i :: .ref 1003 :: st) h Q := Ev.tScript (by decide +kernel : decode LW_law.2.1 736 = .ok (.iaload, 1)) hi kk
set_option maxRecDepth 20000 in
theorem LW_law_737 {X : SX} {d : Nat} {st : List Value} {h : HH} {Q : Int32 → HH → Prop} {a1 a2 a3 : Value}   (kk : E X d LW_law 738 [.ref 1003, a1, a2, a3] (.ref 1003 :: st) h Q) : E X d LW_law 737 [.ref 1003, a1, a2, a3] st h Q := Ev.aload_n (by decide +kernel : decode LW_law.2.1 737 = .ok (.aload_n 0, 1)) rfl rfl kk
set_option maxRecDepth 20000 in
theorem LW_law_738 {X : SX} {d : Nat} {st : List Value} {h : HH} {Q : Int32 → HH → Prop} {a0 a1 a2 : Value} {x : Int32}  (kk : E X d LW_law 739 [a0, a1, a2, .int x] (.int x :: st) h Q) : E X d LW_law 738 [a0, a1, a2, .int x] st h Q := Ev.iload_n (by decide +kernel : decode LW_law.2.1 738 = .ok (.iload_n 3, 1)) rfl rfl kk
set_option maxRecDepth 20000 in
theorem LW_law_739 {X : SX} {d : Nat} {L : List Value} {st : List Value} {h : HH} {Q : Int32 → HH → Prop}   (kk : E X d LW_law 740 L (.int 4 :: st) h Q) : E X d LW_law 739 L st h Q := Ev.iconst (by decide +kernel : decode LW_law.2.1 739 = .ok (.iconst 4, 1)) (by decide) kk
set_option maxRecDepth 20000 in
theorem LW_law_740 {X : SX} {d : Nat} {L : List Value} {st : List Value} {h : HH} {Q : Int32 → HH → Prop} {x z : Int32}  (kk : E X d LW_law 741 L (.int (x + z) :: st) h Q) : E X d LW_law 740 L (.int z :: .int x :: st) h Q := Ev.iadd (by decide +kernel : decode LW_law.2.1 740 = .ok (.iadd, 1)) kk
set_option maxRecDepth 20000 in
theorem LW_law_741 {X : SX} {d : Nat} {L : List Value} {st : List Value} {h : HH} {Q : Int32 → HH → Prop} {i : Int32} (hi : vp_in i X.1) (kk : E X d LW_law 742 L (.int (X.2 i.toNatClampNeg) :: st) h Q) : E X d LW_law 741 L (.int i :: .ref 1003 :: st) h Q := Ev.tScript (by decide +kernel : decode LW_law.2.1 741 = .ok (.iaload, 1)) hi kk
set_option maxRecDepth 20000 in
theorem LW_law_742 {X : SX} {d : Nat} {L : List Value} {st : List Value} {h : HH} {Q : Int32 → HH → Prop} {b0 : Int32} {b1 : Int32} {b2 : Int32} {b3 : Int32}   (hc : (st.map (fun v => v.category)).sum ≤ 8) (kk : E X d FC_known 0 [.ref 0, .int b0, .int b1, .int b2, .int b3] [] h (fun x h' => E X (d + 1) LW_law 745 L (.int x :: st) h' Q)) : E X (d + 1) LW_law 742 L (.int b3 :: .int b2 :: .int b1 :: .int b0 :: .ref 0 :: st) h Q := E.callVi (n := 4) (ix := 79) (args := [.int b0, .int b1, .int b2, .int b3]) (by decide +kernel : decode LW_law.2.1 742 = .ok (.invokevirtual 79, 3)) FC_known_ok rfl rfl rfl wd_634 wd_635 wd_636 rfl FC_known_ds (Nat.le_of_ble_eq_true rfl) hc (by decide) kk
set_option maxRecDepth 20000 in
theorem LW_law_745 {X : SX} {d : Nat} {st : List Value} {h : HH} {Q : Int32 → HH → Prop} {a0 a1 a3 : Value}   (kk : E X d LW_law 746 [a0, a1, .ref 57, a3] (.ref 57 :: st) h Q) : E X d LW_law 745 [a0, a1, .ref 57, a3] st h Q := Ev.aload_n (by decide +kernel : decode LW_law.2.1 745 = .ok (.aload_n 2, 1)) rfl rfl kk
set_option maxRecDepth 20000 in
theorem LW_law_746 {X : SX} {d : Nat} {st : List Value} {h : HH} {Q : Int32 → HH → Prop} {a1 a2 a3 : Value}   (kk : E X d LW_law 747 [.ref 1003, a1, a2, a3] (.ref 1003 :: st) h Q) : E X d LW_law 746 [.ref 1003, a1, a2, a3] st h Q := Ev.aload_n (by decide +kernel : decode LW_law.2.1 746 = .ok (.aload_n 0, 1)) rfl rfl kk
set_option maxRecDepth 20000 in
theorem LW_law_747 {X : SX} {d : Nat} {st : List Value} {h : HH} {Q : Int32 → HH → Prop} {a0 a1 a2 : Value} {x : Int32}  (kk : E X d LW_law 748 [a0, a1, a2, .int x] (.int x :: st) h Q) : E X d LW_law 747 [a0, a1, a2, .int x] st h Q := Ev.iload_n (by decide +kernel : decode LW_law.2.1 747 = .ok (.iload_n 3, 1)) rfl rfl kk
set_option maxRecDepth 20000 in
theorem LW_law_748 {X : SX} {d : Nat} {L : List Value} {st : List Value} {h : HH} {Q : Int32 → HH → Prop}   (kk : E X d LW_law 749 L (.int 1 :: st) h Q) : E X d LW_law 748 L st h Q := Ev.iconst (by decide +kernel : decode LW_law.2.1 748 = .ok (.iconst 1, 1)) (by decide) kk
set_option maxRecDepth 20000 in
theorem LW_law_749 {X : SX} {d : Nat} {L : List Value} {st : List Value} {h : HH} {Q : Int32 → HH → Prop} {x z : Int32}  (kk : E X d LW_law 750 L (.int (x + z) :: st) h Q) : E X d LW_law 749 L (.int z :: .int x :: st) h Q := Ev.iadd (by decide +kernel : decode LW_law.2.1 749 = .ok (.iadd, 1)) kk
set_option maxRecDepth 20000 in
theorem LW_law_750 {X : SX} {d : Nat} {L : List Value} {st : List Value} {h : HH} {Q : Int32 → HH → Prop} {i : Int32} (hi : vp_in i X.1) (kk : E X d LW_law 751 L (.int (X.2 i.toNatClampNeg) :: st) h Q) : E X d LW_law 750 L (.int i :: .ref 1003 :: st) h Q := Ev.tScript (by decide +kernel : decode LW_law.2.1 750 = .ok (.iaload, 1)) hi kk
set_option maxRecDepth 20000 in
theorem LW_law_751 {X : SX} {d : Nat} {st : List Value} {h : HH} {Q : Int32 → HH → Prop} {a1 a2 a3 : Value}   (kk : E X d LW_law 752 [.ref 1003, a1, a2, a3] (.ref 1003 :: st) h Q) : E X d LW_law 751 [.ref 1003, a1, a2, a3] st h Q := Ev.aload_n (by decide +kernel : decode LW_law.2.1 751 = .ok (.aload_n 0, 1)) rfl rfl kk
set_option maxRecDepth 20000 in
theorem LW_law_752 {X : SX} {d : Nat} {st : List Value} {h : HH} {Q : Int32 → HH → Prop} {a0 a1 a2 : Value} {x : Int32}  (kk : E X d LW_law 753 [a0, a1, a2, .int x] (.int x :: st) h Q) : E X d LW_law 752 [a0, a1, a2, .int x] st h Q := Ev.iload_n (by decide +kernel : decode LW_law.2.1 752 = .ok (.iload_n 3, 1)) rfl rfl kk
set_option maxRecDepth 20000 in
theorem LW_law_753 {X : SX} {d : Nat} {L : List Value} {st : List Value} {h : HH} {Q : Int32 → HH → Prop}   (kk : E X d LW_law 754 L (.int 2 :: st) h Q) : E X d LW_law 753 L st h Q := Ev.iconst (by decide +kernel : decode LW_law.2.1 753 = .ok (.iconst 2, 1)) (by decide) kk
set_option maxRecDepth 20000 in
theorem LW_law_754 {X : SX} {d : Nat} {L : List Value} {st : List Value} {h : HH} {Q : Int32 → HH → Prop} {x z : Int32}  (kk : E X d LW_law 755 L (.int (x + z) :: st) h Q) : E X d LW_law 754 L (.int z :: .int x :: st) h Q := Ev.iadd (by decide +kernel : decode LW_law.2.1 754 = .ok (.iadd, 1)) kk
set_option maxRecDepth 20000 in
theorem LW_law_755 {X : SX} {d : Nat} {L : List Value} {st : List Value} {h : HH} {Q : Int32 → HH → Prop} {i : Int32} (hi : vp_in i X.1) (kk : E X d LW_law 756 L (.int (X.2 i.toNatClampNeg) :: st) h Q) : E X d LW_law 755 L (.int i :: .ref 1003 :: st) h Q := Ev.tScript (by decide +kernel : decode LW_law.2.1 755 = .ok (.iaload, 1)) hi kk
set_option maxRecDepth 20000 in
theorem LW_law_756 {X : SX} {d : Nat} {st : List Value} {h : HH} {Q : Int32 → HH → Prop} {a1 a2 a3 : Value}   (kk : E X d LW_law 757 [.ref 1003, a1, a2, a3] (.ref 1003 :: st) h Q) : E X d LW_law 756 [.ref 1003, a1, a2, a3] st h Q := Ev.aload_n (by decide +kernel : decode LW_law.2.1 756 = .ok (.aload_n 0, 1)) rfl rfl kk
set_option maxRecDepth 20000 in
theorem LW_law_757 {X : SX} {d : Nat} {st : List Value} {h : HH} {Q : Int32 → HH → Prop} {a0 a1 a2 : Value} {x : Int32}  (kk : E X d LW_law 758 [a0, a1, a2, .int x] (.int x :: st) h Q) : E X d LW_law 757 [a0, a1, a2, .int x] st h Q := Ev.iload_n (by decide +kernel : decode LW_law.2.1 757 = .ok (.iload_n 3, 1)) rfl rfl kk
set_option maxRecDepth 20000 in
theorem LW_law_758 {X : SX} {d : Nat} {L : List Value} {st : List Value} {h : HH} {Q : Int32 → HH → Prop}   (kk : E X d LW_law 759 L (.int 3 :: st) h Q) : E X d LW_law 758 L st h Q := Ev.iconst (by decide +kernel : decode LW_law.2.1 758 = .ok (.iconst 3, 1)) (by decide) kk
set_option maxRecDepth 20000 in
theorem LW_law_759 {X : SX} {d : Nat} {L : List Value} {st : List Value} {h : HH} {Q : Int32 → HH → Prop} {x z : Int32}  (kk : E X d LW_law 760 L (.int (x + z) :: st) h Q) : E X d LW_law 759 L (.int z :: .int x :: st) h Q := Ev.iadd (by decide +kernel : decode LW_law.2.1 759 = .ok (.iadd, 1)) kk
set_option maxRecDepth 20000 in
theorem LW_law_760 {X : SX} {d : Nat} {L : List Value} {st : List Value} {h : HH} {Q : Int32 → HH → Prop} {i : Int32} (hi : vp_in i X.1) (kk : E X d LW_law 761 L (.int (X.2 i.toNatClampNeg) :: st) h Q) : E X d LW_law 760 L (.int i :: .ref 1003 :: st) h Q := Ev.tScript (by decide +kernel : decode LW_law.2.1 760 = .ok (.iaload, 1)) hi kk
set_option maxRecDepth 20000 in
theorem LW_law_761 {X : SX} {d : Nat} {st : List Value} {h : HH} {Q : Int32 → HH → Prop} {a1 a2 a3 : Value}   (kk : E X d LW_law 762 [.ref 1003, a1, a2, a3] (.ref 1003 :: st) h Q) : E X d LW_law 761 [.ref 1003, a1, a2, a3] st h Q := Ev.aload_n (by decide +kernel : decode LW_law.2.1 761 = .ok (.aload_n 0, 1)) rfl rfl kk
set_option maxRecDepth 20000 in
theorem LW_law_762 {X : SX} {d : Nat} {st : List Value} {h : HH} {Q : Int32 → HH → Prop} {a0 a1 a2 : Value} {x : Int32}  (kk : E X d LW_law 763 [a0, a1, a2, .int x] (.int x :: st) h Q) : E X d LW_law 762 [a0, a1, a2, .int x] st h Q := Ev.iload_n (by decide +kernel : decode LW_law.2.1 762 = .ok (.iload_n 3, 1)) rfl rfl kk
set_option maxRecDepth 20000 in
theorem LW_law_763 {X : SX} {d : Nat} {L : List Value} {st : List Value} {h : HH} {Q : Int32 → HH → Prop}   (kk : E X d LW_law 764 L (.int 4 :: st) h Q) : E X d LW_law 763 L st h Q := Ev.iconst (by decide +kernel : decode LW_law.2.1 763 = .ok (.iconst 4, 1)) (by decide) kk
set_option maxRecDepth 20000 in
theorem LW_law_764 {X : SX} {d : Nat} {L : List Value} {st : List Value} {h : HH} {Q : Int32 → HH → Prop} {x z : Int32}  (kk : E X d LW_law 765 L (.int (x + z) :: st) h Q) : E X d LW_law 764 L (.int z :: .int x :: st) h Q := Ev.iadd (by decide +kernel : decode LW_law.2.1 764 = .ok (.iadd, 1)) kk
set_option maxRecDepth 20000 in
theorem LW_law_765 {X : SX} {d : Nat} {L : List Value} {st : List Value} {h : HH} {Q : Int32 → HH → Prop} {i : Int32} (hi : vp_in i X.1) (kk : E X d LW_law 766 L (.int (X.2 i.toNatClampNeg) :: st) h Q) : E X d LW_law 765 L (.int i :: .ref 1003 :: st) h Q := Ev.tScript (by decide +kernel : decode LW_law.2.1 765 = .ok (.iaload, 1)) hi kk
set_option maxRecDepth 20000 in
theorem LW_law_766 {X : SX} {d : Nat} {L : List Value} {st : List Value} {h : HH} {Q : Int32 → HH → Prop} {b0 : Int32} {b1 : Int32} {b2 : Int32} {b3 : Int32}   (hc : (st.map (fun v => v.category)).sum ≤ 8) (kk : E X d FM_known 0 [.ref 57, .int b0, .int b1, .int b2, .int b3] [] h (fun x h' => E X (d + 1) LW_law 769 L (.int x :: st) h' Q)) : E X (d + 1) LW_law 766 L (.int b3 :: .int b2 :: .int b1 :: .int b0 :: .ref 57 :: st) h Q := E.callVi (n := 4) (ix := 82) (args := [.int b0, .int b1, .int b2, .int b3]) (by decide +kernel : decode LW_law.2.1 766 = .ok (.invokevirtual 82, 3)) FM_known_ok rfl rfl rfl wd_1100 wd_1101 wd_1102 rfl FM_known_ds (Nat.le_of_ble_eq_true rfl) hc (by decide) kk
set_option maxRecDepth 20000 in
theorem LW_law_769 {X : SX} {d : Nat} {L : List Value} {st : List Value} {h : HH} {Q : Int32 → HH → Prop} {x z : Int32}  (kt : x = z → E X d LW_law 1477 L st h Q) (kf : ¬ x = z → E X d LW_law 772 L st h Q) : E X d LW_law 769 L (.int z :: .int x :: st) h Q := Ev.icmp_eq (tgt := 1477) (by decide +kernel : decode LW_law.2.1 769 = .ok (.if_icmp .eq 708, 3)) (by decide) kt kf
set_option maxRecDepth 20000 in
theorem LW_law_772 {X : SX} {d : Nat} {L : List Value} {st : List Value} {h : HH} {Q : Int32 → HH → Prop}   (kk : E X d LW_law 773 L (.int 0 :: st) h Q) : E X d LW_law 772 L st h Q := Ev.iconst (by decide +kernel : decode LW_law.2.1 772 = .ok (.iconst 0, 1)) (by decide) kk
set_option maxRecDepth 20000 in
theorem LW_law_773 {X : SX} {d : Nat} {L : List Value} {h : HH} {Q : Int32 → HH → Prop} {x : Int32} (hb : narrow .boolean (.int x) = .int x) (hq : Q x h)  : E X d LW_law 773 L [.int x] h Q := Ev.ireturn (by decide +kernel : decode LW_law.2.1 773 = .ok (.ireturn, 1)) rfl hb ⟨rfl, hq⟩
set_option maxRecDepth 20000 in
theorem LW_law_774 {X : SX} {d : Nat} {st : List Value} {h : HH} {Q : Int32 → HH → Prop} {a0 a2 a3 : Value}   (kk : E X d LW_law 775 [a0, .ref 0, a2, a3] (.ref 0 :: st) h Q) : E X d LW_law 774 [a0, .ref 0, a2, a3] st h Q := Ev.aload_n (by decide +kernel : decode LW_law.2.1 774 = .ok (.aload_n 1, 1)) rfl rfl kk
set_option maxRecDepth 20000 in
theorem LW_law_775 {X : SX} {d : Nat} {st : List Value} {h : HH} {Q : Int32 → HH → Prop} {a1 a2 a3 : Value}   (kk : E X d LW_law 776 [.ref 1003, a1, a2, a3] (.ref 1003 :: st) h Q) : E X d LW_law 775 [.ref 1003, a1, a2, a3] st h Q := Ev.aload_n (by decide +kernel : decode LW_law.2.1 775 = .ok (.aload_n 0, 1)) rfl rfl kk
set_option maxRecDepth 20000 in
theorem LW_law_776 {X : SX} {d : Nat} {st : List Value} {h : HH} {Q : Int32 → HH → Prop} {a0 a1 a2 : Value} {x : Int32}  (kk : E X d LW_law 777 [a0, a1, a2, .int x] (.int x :: st) h Q) : E X d LW_law 776 [a0, a1, a2, .int x] st h Q := Ev.iload_n (by decide +kernel : decode LW_law.2.1 776 = .ok (.iload_n 3, 1)) rfl rfl kk
set_option maxRecDepth 20000 in
theorem LW_law_777 {X : SX} {d : Nat} {L : List Value} {st : List Value} {h : HH} {Q : Int32 → HH → Prop}   (kk : E X d LW_law 778 L (.int 1 :: st) h Q) : E X d LW_law 777 L st h Q := Ev.iconst (by decide +kernel : decode LW_law.2.1 777 = .ok (.iconst 1, 1)) (by decide) kk
set_option maxRecDepth 20000 in
theorem LW_law_778 {X : SX} {d : Nat} {L : List Value} {st : List Value} {h : HH} {Q : Int32 → HH → Prop} {x z : Int32}  (kk : E X d LW_law 779 L (.int (x + z) :: st) h Q) : E X d LW_law 778 L (.int z :: .int x :: st) h Q := Ev.iadd (by decide +kernel : decode LW_law.2.1 778 = .ok (.iadd, 1)) kk
set_option maxRecDepth 20000 in
theorem LW_law_779 {X : SX} {d : Nat} {L : List Value} {st : List Value} {h : HH} {Q : Int32 → HH → Prop} {i : Int32} (hi : vp_in i X.1) (kk : E X d LW_law 780 L (.int (X.2 i.toNatClampNeg) :: st) h Q) : E X d LW_law 779 L (.int i :: .ref 1003 :: st) h Q := Ev.tScript (by decide +kernel : decode LW_law.2.1 779 = .ok (.iaload, 1)) hi kk
set_option maxRecDepth 20000 in
theorem LW_law_780 {X : SX} {d : Nat} {st : List Value} {h : HH} {Q : Int32 → HH → Prop} {a1 a2 a3 : Value}   (kk : E X d LW_law 781 [.ref 1003, a1, a2, a3] (.ref 1003 :: st) h Q) : E X d LW_law 780 [.ref 1003, a1, a2, a3] st h Q := Ev.aload_n (by decide +kernel : decode LW_law.2.1 780 = .ok (.aload_n 0, 1)) rfl rfl kk
set_option maxRecDepth 20000 in
theorem LW_law_781 {X : SX} {d : Nat} {st : List Value} {h : HH} {Q : Int32 → HH → Prop} {a0 a1 a2 : Value} {x : Int32}  (kk : E X d LW_law 782 [a0, a1, a2, .int x] (.int x :: st) h Q) : E X d LW_law 781 [a0, a1, a2, .int x] st h Q := Ev.iload_n (by decide +kernel : decode LW_law.2.1 781 = .ok (.iload_n 3, 1)) rfl rfl kk
set_option maxRecDepth 20000 in
theorem LW_law_782 {X : SX} {d : Nat} {L : List Value} {st : List Value} {h : HH} {Q : Int32 → HH → Prop}   (kk : E X d LW_law 783 L (.int 2 :: st) h Q) : E X d LW_law 782 L st h Q := Ev.iconst (by decide +kernel : decode LW_law.2.1 782 = .ok (.iconst 2, 1)) (by decide) kk
set_option maxRecDepth 20000 in
theorem LW_law_783 {X : SX} {d : Nat} {L : List Value} {st : List Value} {h : HH} {Q : Int32 → HH → Prop} {x z : Int32}  (kk : E X d LW_law 784 L (.int (x + z) :: st) h Q) : E X d LW_law 783 L (.int z :: .int x :: st) h Q := Ev.iadd (by decide +kernel : decode LW_law.2.1 783 = .ok (.iadd, 1)) kk
set_option maxRecDepth 20000 in
theorem LW_law_784 {X : SX} {d : Nat} {L : List Value} {st : List Value} {h : HH} {Q : Int32 → HH → Prop} {i : Int32} (hi : vp_in i X.1) (kk : E X d LW_law 785 L (.int (X.2 i.toNatClampNeg) :: st) h Q) : E X d LW_law 784 L (.int i :: .ref 1003 :: st) h Q := Ev.tScript (by decide +kernel : decode LW_law.2.1 784 = .ok (.iaload, 1)) hi kk
set_option maxRecDepth 20000 in
theorem LW_law_785 {X : SX} {d : Nat} {st : List Value} {h : HH} {Q : Int32 → HH → Prop} {a1 a2 a3 : Value}   (kk : E X d LW_law 786 [.ref 1003, a1, a2, a3] (.ref 1003 :: st) h Q) : E X d LW_law 785 [.ref 1003, a1, a2, a3] st h Q := Ev.aload_n (by decide +kernel : decode LW_law.2.1 785 = .ok (.aload_n 0, 1)) rfl rfl kk
set_option maxRecDepth 20000 in
theorem LW_law_786 {X : SX} {d : Nat} {st : List Value} {h : HH} {Q : Int32 → HH → Prop} {a0 a1 a2 : Value} {x : Int32}  (kk : E X d LW_law 787 [a0, a1, a2, .int x] (.int x :: st) h Q) : E X d LW_law 786 [a0, a1, a2, .int x] st h Q := Ev.iload_n (by decide +kernel : decode LW_law.2.1 786 = .ok (.iload_n 3, 1)) rfl rfl kk
set_option maxRecDepth 20000 in
theorem LW_law_787 {X : SX} {d : Nat} {L : List Value} {st : List Value} {h : HH} {Q : Int32 → HH → Prop}   (kk : E X d LW_law 788 L (.int 3 :: st) h Q) : E X d LW_law 787 L st h Q := Ev.iconst (by decide +kernel : decode LW_law.2.1 787 = .ok (.iconst 3, 1)) (by decide) kk
set_option maxRecDepth 20000 in
theorem LW_law_788 {X : SX} {d : Nat} {L : List Value} {st : List Value} {h : HH} {Q : Int32 → HH → Prop} {x z : Int32}  (kk : E X d LW_law 789 L (.int (x + z) :: st) h Q) : E X d LW_law 788 L (.int z :: .int x :: st) h Q := Ev.iadd (by decide +kernel : decode LW_law.2.1 788 = .ok (.iadd, 1)) kk
set_option maxRecDepth 20000 in
theorem LW_law_789 {X : SX} {d : Nat} {L : List Value} {st : List Value} {h : HH} {Q : Int32 → HH → Prop} {i : Int32} (hi : vp_in i X.1) (kk : E X d LW_law 790 L (.int (X.2 i.toNatClampNeg) :: st) h Q) : E X d LW_law 789 L (.int i :: .ref 1003 :: st) h Q := Ev.tScript (by decide +kernel : decode LW_law.2.1 789 = .ok (.iaload, 1)) hi kk
set_option maxRecDepth 20000 in
theorem LW_law_790 {X : SX} {d : Nat} {st : List Value} {h : HH} {Q : Int32 → HH → Prop} {a1 a2 a3 : Value}   (kk : E X d LW_law 791 [.ref 1003, a1, a2, a3] (.ref 1003 :: st) h Q) : E X d LW_law 790 [.ref 1003, a1, a2, a3] st h Q := Ev.aload_n (by decide +kernel : decode LW_law.2.1 790 = .ok (.aload_n 0, 1)) rfl rfl kk
set_option maxRecDepth 20000 in
theorem LW_law_791 {X : SX} {d : Nat} {st : List Value} {h : HH} {Q : Int32 → HH → Prop} {a0 a1 a2 : Value} {x : Int32}  (kk : E X d LW_law 792 [a0, a1, a2, .int x] (.int x :: st) h Q) : E X d LW_law 791 [a0, a1, a2, .int x] st h Q := Ev.iload_n (by decide +kernel : decode LW_law.2.1 791 = .ok (.iload_n 3, 1)) rfl rfl kk
set_option maxRecDepth 20000 in
theorem LW_law_792 {X : SX} {d : Nat} {L : List Value} {st : List Value} {h : HH} {Q : Int32 → HH → Prop}   (kk : E X d LW_law 793 L (.int 4 :: st) h Q) : E X d LW_law 792 L st h Q := Ev.iconst (by decide +kernel : decode LW_law.2.1 792 = .ok (.iconst 4, 1)) (by decide) kk
set_option maxRecDepth 20000 in
theorem LW_law_793 {X : SX} {d : Nat} {L : List Value} {st : List Value} {h : HH} {Q : Int32 → HH → Prop} {x z : Int32}  (kk : E X d LW_law 794 L (.int (x + z) :: st) h Q) : E X d LW_law 793 L (.int z :: .int x :: st) h Q := Ev.iadd (by decide +kernel : decode LW_law.2.1 793 = .ok (.iadd, 1)) kk
set_option maxRecDepth 20000 in
theorem LW_law_794 {X : SX} {d : Nat} {L : List Value} {st : List Value} {h : HH} {Q : Int32 → HH → Prop} {i : Int32} (hi : vp_in i X.1) (kk : E X d LW_law 795 L (.int (X.2 i.toNatClampNeg) :: st) h Q) : E X d LW_law 794 L (.int i :: .ref 1003 :: st) h Q := Ev.tScript (by decide +kernel : decode LW_law.2.1 794 = .ok (.iaload, 1)) hi kk
set_option maxRecDepth 20000 in
theorem LW_law_795 {X : SX} {d : Nat} {L : List Value} {st : List Value} {h : HH} {Q : Int32 → HH → Prop} {b0 : Int32} {b1 : Int32} {b2 : Int32} {b3 : Int32}   (hc : (st.map (fun v => v.category)).sum ≤ 8) (kk : E X d FC_holds 0 [.ref 0, .int b0, .int b1, .int b2, .int b3] [] h (fun x h' => E X (d + 1) LW_law 798 L (.int x :: st) h' Q)) : E X (d + 1) LW_law 795 L (.int b3 :: .int b2 :: .int b1 :: .int b0 :: .ref 0 :: st) h Q := E.callVi (n := 4) (ix := 83) (args := [.int b0, .int b1, .int b2, .int b3]) (by decide +kernel : decode LW_law.2.1 795 = .ok (.invokevirtual 83, 3)) FC_holds_ok rfl rfl rfl wd_642 wd_643 wd_644 rfl FC_holds_ds (Nat.le_of_ble_eq_true rfl) hc (by decide) kk
set_option maxRecDepth 20000 in
theorem LW_law_798 {X : SX} {d : Nat} {st : List Value} {h : HH} {Q : Int32 → HH → Prop} {a0 a1 a3 : Value}   (kk : E X d LW_law 799 [a0, a1, .ref 57, a3] (.ref 57 :: st) h Q) : E X d LW_law 798 [a0, a1, .ref 57, a3] st h Q := Ev.aload_n (by decide +kernel : decode LW_law.2.1 798 = .ok (.aload_n 2, 1)) rfl rfl kk
set_option maxRecDepth 20000 in
theorem LW_law_799 {X : SX} {d : Nat} {st : List Value} {h : HH} {Q : Int32 → HH → Prop} {a1 a2 a3 : Value}   (kk : E X d LW_law 800 [.ref 1003, a1, a2, a3] (.ref 1003 :: st) h Q) : E X d LW_law 799 [.ref 1003, a1, a2, a3] st h Q := Ev.aload_n (by decide +kernel : decode LW_law.2.1 799 = .ok (.aload_n 0, 1)) rfl rfl kk
set_option maxRecDepth 20000 in
theorem LW_law_800 {X : SX} {d : Nat} {st : List Value} {h : HH} {Q : Int32 → HH → Prop} {a0 a1 a2 : Value} {x : Int32}  (kk : E X d LW_law 801 [a0, a1, a2, .int x] (.int x :: st) h Q) : E X d LW_law 800 [a0, a1, a2, .int x] st h Q := Ev.iload_n (by decide +kernel : decode LW_law.2.1 800 = .ok (.iload_n 3, 1)) rfl rfl kk
set_option maxRecDepth 20000 in
theorem LW_law_801 {X : SX} {d : Nat} {L : List Value} {st : List Value} {h : HH} {Q : Int32 → HH → Prop}   (kk : E X d LW_law 802 L (.int 1 :: st) h Q) : E X d LW_law 801 L st h Q := Ev.iconst (by decide +kernel : decode LW_law.2.1 801 = .ok (.iconst 1, 1)) (by decide) kk
set_option maxRecDepth 20000 in
theorem LW_law_802 {X : SX} {d : Nat} {L : List Value} {st : List Value} {h : HH} {Q : Int32 → HH → Prop} {x z : Int32}  (kk : E X d LW_law 803 L (.int (x + z) :: st) h Q) : E X d LW_law 802 L (.int z :: .int x :: st) h Q := Ev.iadd (by decide +kernel : decode LW_law.2.1 802 = .ok (.iadd, 1)) kk
set_option maxRecDepth 20000 in
theorem LW_law_803 {X : SX} {d : Nat} {L : List Value} {st : List Value} {h : HH} {Q : Int32 → HH → Prop} {i : Int32} (hi : vp_in i X.1) (kk : E X d LW_law 804 L (.int (X.2 i.toNatClampNeg) :: st) h Q) : E X d LW_law 803 L (.int i :: .ref 1003 :: st) h Q := Ev.tScript (by decide +kernel : decode LW_law.2.1 803 = .ok (.iaload, 1)) hi kk
set_option maxRecDepth 20000 in
theorem LW_law_804 {X : SX} {d : Nat} {st : List Value} {h : HH} {Q : Int32 → HH → Prop} {a1 a2 a3 : Value}   (kk : E X d LW_law 805 [.ref 1003, a1, a2, a3] (.ref 1003 :: st) h Q) : E X d LW_law 804 [.ref 1003, a1, a2, a3] st h Q := Ev.aload_n (by decide +kernel : decode LW_law.2.1 804 = .ok (.aload_n 0, 1)) rfl rfl kk
set_option maxRecDepth 20000 in
theorem LW_law_805 {X : SX} {d : Nat} {st : List Value} {h : HH} {Q : Int32 → HH → Prop} {a0 a1 a2 : Value} {x : Int32}  (kk : E X d LW_law 806 [a0, a1, a2, .int x] (.int x :: st) h Q) : E X d LW_law 805 [a0, a1, a2, .int x] st h Q := Ev.iload_n (by decide +kernel : decode LW_law.2.1 805 = .ok (.iload_n 3, 1)) rfl rfl kk
set_option maxRecDepth 20000 in
theorem LW_law_806 {X : SX} {d : Nat} {L : List Value} {st : List Value} {h : HH} {Q : Int32 → HH → Prop}   (kk : E X d LW_law 807 L (.int 2 :: st) h Q) : E X d LW_law 806 L st h Q := Ev.iconst (by decide +kernel : decode LW_law.2.1 806 = .ok (.iconst 2, 1)) (by decide) kk
set_option maxRecDepth 20000 in
theorem LW_law_807 {X : SX} {d : Nat} {L : List Value} {st : List Value} {h : HH} {Q : Int32 → HH → Prop} {x z : Int32}  (kk : E X d LW_law 808 L (.int (x + z) :: st) h Q) : E X d LW_law 807 L (.int z :: .int x :: st) h Q := Ev.iadd (by decide +kernel : decode LW_law.2.1 807 = .ok (.iadd, 1)) kk
set_option maxRecDepth 20000 in
theorem LW_law_808 {X : SX} {d : Nat} {L : List Value} {st : List Value} {h : HH} {Q : Int32 → HH → Prop} {i : Int32} (hi : vp_in i X.1) (kk : E X d LW_law 809 L (.int (X.2 i.toNatClampNeg) :: st) h Q) : E X d LW_law 808 L (.int i :: .ref 1003 :: st) h Q := Ev.tScript (by decide +kernel : decode LW_law.2.1 808 = .ok (.iaload, 1)) hi kk
set_option maxRecDepth 20000 in
theorem LW_law_809 {X : SX} {d : Nat} {st : List Value} {h : HH} {Q : Int32 → HH → Prop} {a1 a2 a3 : Value}   (kk : E X d LW_law 810 [.ref 1003, a1, a2, a3] (.ref 1003 :: st) h Q) : E X d LW_law 809 [.ref 1003, a1, a2, a3] st h Q := Ev.aload_n (by decide +kernel : decode LW_law.2.1 809 = .ok (.aload_n 0, 1)) rfl rfl kk
set_option maxRecDepth 20000 in
theorem LW_law_810 {X : SX} {d : Nat} {st : List Value} {h : HH} {Q : Int32 → HH → Prop} {a0 a1 a2 : Value} {x : Int32}  (kk : E X d LW_law 811 [a0, a1, a2, .int x] (.int x :: st) h Q) : E X d LW_law 810 [a0, a1, a2, .int x] st h Q := Ev.iload_n (by decide +kernel : decode LW_law.2.1 810 = .ok (.iload_n 3, 1)) rfl rfl kk
set_option maxRecDepth 20000 in
theorem LW_law_811 {X : SX} {d : Nat} {L : List Value} {st : List Value} {h : HH} {Q : Int32 → HH → Prop}   (kk : E X d LW_law 812 L (.int 3 :: st) h Q) : E X d LW_law 811 L st h Q := Ev.iconst (by decide +kernel : decode LW_law.2.1 811 = .ok (.iconst 3, 1)) (by decide) kk
set_option maxRecDepth 20000 in
theorem LW_law_812 {X : SX} {d : Nat} {L : List Value} {st : List Value} {h : HH} {Q : Int32 → HH → Prop} {x z : Int32}  (kk : E X d LW_law 813 L (.int (x + z) :: st) h Q) : E X d LW_law 812 L (.int z :: .int x :: st) h Q := Ev.iadd (by decide +kernel : decode LW_law.2.1 812 = .ok (.iadd, 1)) kk
set_option maxRecDepth 20000 in
theorem LW_law_813 {X : SX} {d : Nat} {L : List Value} {st : List Value} {h : HH} {Q : Int32 → HH → Prop} {i : Int32} (hi : vp_in i X.1) (kk : E X d LW_law 814 L (.int (X.2 i.toNatClampNeg) :: st) h Q) : E X d LW_law 813 L (.int i :: .ref 1003 :: st) h Q := Ev.tScript (by decide +kernel : decode LW_law.2.1 813 = .ok (.iaload, 1)) hi kk
set_option maxRecDepth 20000 in
theorem LW_law_814 {X : SX} {d : Nat} {st : List Value} {h : HH} {Q : Int32 → HH → Prop} {a1 a2 a3 : Value}   (kk : E X d LW_law 815 [.ref 1003, a1, a2, a3] (.ref 1003 :: st) h Q) : E X d LW_law 814 [.ref 1003, a1, a2, a3] st h Q := Ev.aload_n (by decide +kernel : decode LW_law.2.1 814 = .ok (.aload_n 0, 1)) rfl rfl kk
set_option maxRecDepth 20000 in
theorem LW_law_815 {X : SX} {d : Nat} {st : List Value} {h : HH} {Q : Int32 → HH → Prop} {a0 a1 a2 : Value} {x : Int32}  (kk : E X d LW_law 816 [a0, a1, a2, .int x] (.int x :: st) h Q) : E X d LW_law 815 [a0, a1, a2, .int x] st h Q := Ev.iload_n (by decide +kernel : decode LW_law.2.1 815 = .ok (.iload_n 3, 1)) rfl rfl kk
set_option maxRecDepth 20000 in
theorem LW_law_816 {X : SX} {d : Nat} {L : List Value} {st : List Value} {h : HH} {Q : Int32 → HH → Prop}   (kk : E X d LW_law 817 L (.int 4 :: st) h Q) : E X d LW_law 816 L st h Q := Ev.iconst (by decide +kernel : decode LW_law.2.1 816 = .ok (.iconst 4, 1)) (by decide) kk
set_option maxRecDepth 20000 in
theorem LW_law_817 {X : SX} {d : Nat} {L : List Value} {st : List Value} {h : HH} {Q : Int32 → HH → Prop} {x z : Int32}  (kk : E X d LW_law 818 L (.int (x + z) :: st) h Q) : E X d LW_law 817 L (.int z :: .int x :: st) h Q := Ev.iadd (by decide +kernel : decode LW_law.2.1 817 = .ok (.iadd, 1)) kk
set_option maxRecDepth 20000 in
theorem LW_law_818 {X : SX} {d : Nat} {L : List Value} {st : List Value} {h : HH} {Q : Int32 → HH → Prop} {i : Int32} (hi : vp_in i X.1) (kk : E X d LW_law 819 L (.int (X.2 i.toNatClampNeg) :: st) h Q) : E X d LW_law 818 L (.int i :: .ref 1003 :: st) h Q := Ev.tScript (by decide +kernel : decode LW_law.2.1 818 = .ok (.iaload, 1)) hi kk
set_option maxRecDepth 20000 in
theorem LW_law_819 {X : SX} {d : Nat} {L : List Value} {st : List Value} {h : HH} {Q : Int32 → HH → Prop} {b0 : Int32} {b1 : Int32} {b2 : Int32} {b3 : Int32}   (hc : (st.map (fun v => v.category)).sum ≤ 8) (kk : E X d FM_holds 0 [.ref 57, .int b0, .int b1, .int b2, .int b3] [] h (fun x h' => E X (d + 1) LW_law 822 L (.int x :: st) h' Q)) : E X (d + 1) LW_law 819 L (.int b3 :: .int b2 :: .int b1 :: .int b0 :: .ref 57 :: st) h Q := E.callVi (n := 4) (ix := 86) (args := [.int b0, .int b1, .int b2, .int b3]) (by decide +kernel : decode LW_law.2.1 819 = .ok (.invokevirtual 86, 3)) FM_holds_ok rfl rfl rfl wd_1111 wd_1112 wd_1113 rfl FM_holds_ds (Nat.le_of_ble_eq_true rfl) hc (by decide) kk
set_option maxRecDepth 20000 in
theorem LW_law_822 {X : SX} {d : Nat} {L : List Value} {st : List Value} {h : HH} {Q : Int32 → HH → Prop} {x z : Int32}  (kt : x = z → E X d LW_law 1477 L st h Q) (kf : ¬ x = z → E X d LW_law 825 L st h Q) : E X d LW_law 822 L (.int z :: .int x :: st) h Q := Ev.icmp_eq (tgt := 1477) (by decide +kernel : decode LW_law.2.1 822 = .ok (.if_icmp .eq 655, 3)) (by decide) kt kf
set_option maxRecDepth 20000 in
theorem LW_law_825 {X : SX} {d : Nat} {L : List Value} {st : List Value} {h : HH} {Q : Int32 → HH → Prop}   (kk : E X d LW_law 826 L (.int 0 :: st) h Q) : E X d LW_law 825 L st h Q := Ev.iconst (by decide +kernel : decode LW_law.2.1 825 = .ok (.iconst 0, 1)) (by decide) kk
set_option maxRecDepth 20000 in
theorem LW_law_826 {X : SX} {d : Nat} {L : List Value} {h : HH} {Q : Int32 → HH → Prop} {x : Int32} (hb : narrow .boolean (.int x) = .int x) (hq : Q x h)  : E X d LW_law 826 L [.int x] h Q := Ev.ireturn (by decide +kernel : decode LW_law.2.1 826 = .ok (.ireturn, 1)) rfl hb ⟨rfl, hq⟩
set_option maxRecDepth 20000 in
theorem LW_law_827 {X : SX} {d : Nat} {st : List Value} {h : HH} {Q : Int32 → HH → Prop} {a0 a2 a3 : Value}   (kk : E X d LW_law 828 [a0, .ref 0, a2, a3] (.ref 0 :: st) h Q) : E X d LW_law 827 [a0, .ref 0, a2, a3] st h Q := Ev.aload_n (by decide +kernel : decode LW_law.2.1 827 = .ok (.aload_n 1, 1)) rfl rfl kk
set_option maxRecDepth 20000 in
theorem LW_law_828 {X : SX} {d : Nat} {st : List Value} {h : HH} {Q : Int32 → HH → Prop} {a1 a2 a3 : Value}   (kk : E X d LW_law 829 [.ref 1003, a1, a2, a3] (.ref 1003 :: st) h Q) : E X d LW_law 828 [.ref 1003, a1, a2, a3] st h Q := Ev.aload_n (by decide +kernel : decode LW_law.2.1 828 = .ok (.aload_n 0, 1)) rfl rfl kk
set_option maxRecDepth 20000 in
theorem LW_law_829 {X : SX} {d : Nat} {st : List Value} {h : HH} {Q : Int32 → HH → Prop} {a0 a1 a2 : Value} {x : Int32}  (kk : E X d LW_law 830 [a0, a1, a2, .int x] (.int x :: st) h Q) : E X d LW_law 829 [a0, a1, a2, .int x] st h Q := Ev.iload_n (by decide +kernel : decode LW_law.2.1 829 = .ok (.iload_n 3, 1)) rfl rfl kk
set_option maxRecDepth 20000 in
theorem LW_law_830 {X : SX} {d : Nat} {L : List Value} {st : List Value} {h : HH} {Q : Int32 → HH → Prop}   (kk : E X d LW_law 831 L (.int 1 :: st) h Q) : E X d LW_law 830 L st h Q := Ev.iconst (by decide +kernel : decode LW_law.2.1 830 = .ok (.iconst 1, 1)) (by decide) kk
set_option maxRecDepth 20000 in
theorem LW_law_831 {X : SX} {d : Nat} {L : List Value} {st : List Value} {h : HH} {Q : Int32 → HH → Prop} {x z : Int32}  (kk : E X d LW_law 832 L (.int (x + z) :: st) h Q) : E X d LW_law 831 L (.int z :: .int x :: st) h Q := Ev.iadd (by decide +kernel : decode LW_law.2.1 831 = .ok (.iadd, 1)) kk
set_option maxRecDepth 20000 in
theorem LW_law_832 {X : SX} {d : Nat} {L : List Value} {st : List Value} {h : HH} {Q : Int32 → HH → Prop} {i : Int32} (hi : vp_in i X.1) (kk : E X d LW_law 833 L (.int (X.2 i.toNatClampNeg) :: st) h Q) : E X d LW_law 832 L (.int i :: .ref 1003 :: st) h Q := Ev.tScript (by decide +kernel : decode LW_law.2.1 832 = .ok (.iaload, 1)) hi kk
set_option maxRecDepth 20000 in
theorem LW_law_833 {X : SX} {d : Nat} {st : List Value} {h : HH} {Q : Int32 → HH → Prop} {a1 a2 a3 : Value}   (kk : E X d LW_law 834 [.ref 1003, a1, a2, a3] (.ref 1003 :: st) h Q) : E X d LW_law 833 [.ref 1003, a1, a2, a3] st h Q := Ev.aload_n (by decide +kernel : decode LW_law.2.1 833 = .ok (.aload_n 0, 1)) rfl rfl kk
set_option maxRecDepth 20000 in
theorem LW_law_834 {X : SX} {d : Nat} {st : List Value} {h : HH} {Q : Int32 → HH → Prop} {a0 a1 a2 : Value} {x : Int32}  (kk : E X d LW_law 835 [a0, a1, a2, .int x] (.int x :: st) h Q) : E X d LW_law 834 [a0, a1, a2, .int x] st h Q := Ev.iload_n (by decide +kernel : decode LW_law.2.1 834 = .ok (.iload_n 3, 1)) rfl rfl kk
set_option maxRecDepth 20000 in
theorem LW_law_835 {X : SX} {d : Nat} {L : List Value} {st : List Value} {h : HH} {Q : Int32 → HH → Prop}   (kk : E X d LW_law 836 L (.int 2 :: st) h Q) : E X d LW_law 835 L st h Q := Ev.iconst (by decide +kernel : decode LW_law.2.1 835 = .ok (.iconst 2, 1)) (by decide) kk
set_option maxRecDepth 20000 in
theorem LW_law_836 {X : SX} {d : Nat} {L : List Value} {st : List Value} {h : HH} {Q : Int32 → HH → Prop} {x z : Int32}  (kk : E X d LW_law 837 L (.int (x + z) :: st) h Q) : E X d LW_law 836 L (.int z :: .int x :: st) h Q := Ev.iadd (by decide +kernel : decode LW_law.2.1 836 = .ok (.iadd, 1)) kk
set_option maxRecDepth 20000 in
theorem LW_law_837 {X : SX} {d : Nat} {L : List Value} {st : List Value} {h : HH} {Q : Int32 → HH → Prop} {i : Int32} (hi : vp_in i X.1) (kk : E X d LW_law 838 L (.int (X.2 i.toNatClampNeg) :: st) h Q) : E X d LW_law 837 L (.int i :: .ref 1003 :: st) h Q := Ev.tScript (by decide +kernel : decode LW_law.2.1 837 = .ok (.iaload, 1)) hi kk
set_option maxRecDepth 20000 in
theorem LW_law_838 {X : SX} {d : Nat} {st : List Value} {h : HH} {Q : Int32 → HH → Prop} {a1 a2 a3 : Value}   (kk : E X d LW_law 839 [.ref 1003, a1, a2, a3] (.ref 1003 :: st) h Q) : E X d LW_law 838 [.ref 1003, a1, a2, a3] st h Q := Ev.aload_n (by decide +kernel : decode LW_law.2.1 838 = .ok (.aload_n 0, 1)) rfl rfl kk
set_option maxRecDepth 20000 in
theorem LW_law_839 {X : SX} {d : Nat} {st : List Value} {h : HH} {Q : Int32 → HH → Prop} {a0 a1 a2 : Value} {x : Int32}  (kk : E X d LW_law 840 [a0, a1, a2, .int x] (.int x :: st) h Q) : E X d LW_law 839 [a0, a1, a2, .int x] st h Q := Ev.iload_n (by decide +kernel : decode LW_law.2.1 839 = .ok (.iload_n 3, 1)) rfl rfl kk
set_option maxRecDepth 20000 in
theorem LW_law_840 {X : SX} {d : Nat} {L : List Value} {st : List Value} {h : HH} {Q : Int32 → HH → Prop}   (kk : E X d LW_law 841 L (.int 3 :: st) h Q) : E X d LW_law 840 L st h Q := Ev.iconst (by decide +kernel : decode LW_law.2.1 840 = .ok (.iconst 3, 1)) (by decide) kk
set_option maxRecDepth 20000 in
theorem LW_law_841 {X : SX} {d : Nat} {L : List Value} {st : List Value} {h : HH} {Q : Int32 → HH → Prop} {x z : Int32}  (kk : E X d LW_law 842 L (.int (x + z) :: st) h Q) : E X d LW_law 841 L (.int z :: .int x :: st) h Q := Ev.iadd (by decide +kernel : decode LW_law.2.1 841 = .ok (.iadd, 1)) kk
set_option maxRecDepth 20000 in
theorem LW_law_842 {X : SX} {d : Nat} {L : List Value} {st : List Value} {h : HH} {Q : Int32 → HH → Prop} {i : Int32} (hi : vp_in i X.1) (kk : E X d LW_law 843 L (.int (X.2 i.toNatClampNeg) :: st) h Q) : E X d LW_law 842 L (.int i :: .ref 1003 :: st) h Q := Ev.tScript (by decide +kernel : decode LW_law.2.1 842 = .ok (.iaload, 1)) hi kk
set_option maxRecDepth 20000 in
theorem LW_law_843 {X : SX} {d : Nat} {L : List Value} {st : List Value} {h : HH} {Q : Int32 → HH → Prop} {b0 : Int32} {b1 : Int32} {b2 : Int32}   (hc : (st.map (fun v => v.category)).sum ≤ 8) (kk : E X d FC_open 0 [.ref 0, .int b0, .int b1, .int b2, U0] [] h (fun x h' => E X (d + 1) LW_law 846 L (.int x :: st) h' Q)) : E X (d + 1) LW_law 843 L (.int b2 :: .int b1 :: .int b0 :: .ref 0 :: st) h Q := E.callVi (n := 3) (ix := 87) (args := [.int b0, .int b1, .int b2]) (by decide +kernel : decode LW_law.2.1 843 = .ok (.invokevirtual 87, 3)) FC_open_ok rfl rfl rfl wd_647 wd_648 wd_649 rfl FC_open_ds (Nat.le_of_ble_eq_true rfl) hc (by decide) kk
set_option maxRecDepth 20000 in
theorem LW_law_846 {X : SX} {d : Nat} {st : List Value} {h : HH} {Q : Int32 → HH → Prop} {a0 a1 a3 : Value}   (kk : E X d LW_law 847 [a0, a1, .ref 57, a3] (.ref 57 :: st) h Q) : E X d LW_law 846 [a0, a1, .ref 57, a3] st h Q := Ev.aload_n (by decide +kernel : decode LW_law.2.1 846 = .ok (.aload_n 2, 1)) rfl rfl kk
set_option maxRecDepth 20000 in
theorem LW_law_847 {X : SX} {d : Nat} {st : List Value} {h : HH} {Q : Int32 → HH → Prop} {a1 a2 a3 : Value}   (kk : E X d LW_law 848 [.ref 1003, a1, a2, a3] (.ref 1003 :: st) h Q) : E X d LW_law 847 [.ref 1003, a1, a2, a3] st h Q := Ev.aload_n (by decide +kernel : decode LW_law.2.1 847 = .ok (.aload_n 0, 1)) rfl rfl kk
set_option maxRecDepth 20000 in
theorem LW_law_848 {X : SX} {d : Nat} {st : List Value} {h : HH} {Q : Int32 → HH → Prop} {a0 a1 a2 : Value} {x : Int32}  (kk : E X d LW_law 849 [a0, a1, a2, .int x] (.int x :: st) h Q) : E X d LW_law 848 [a0, a1, a2, .int x] st h Q := Ev.iload_n (by decide +kernel : decode LW_law.2.1 848 = .ok (.iload_n 3, 1)) rfl rfl kk
set_option maxRecDepth 20000 in
theorem LW_law_849 {X : SX} {d : Nat} {L : List Value} {st : List Value} {h : HH} {Q : Int32 → HH → Prop}   (kk : E X d LW_law 850 L (.int 1 :: st) h Q) : E X d LW_law 849 L st h Q := Ev.iconst (by decide +kernel : decode LW_law.2.1 849 = .ok (.iconst 1, 1)) (by decide) kk
set_option maxRecDepth 20000 in
theorem LW_law_850 {X : SX} {d : Nat} {L : List Value} {st : List Value} {h : HH} {Q : Int32 → HH → Prop} {x z : Int32}  (kk : E X d LW_law 851 L (.int (x + z) :: st) h Q) : E X d LW_law 850 L (.int z :: .int x :: st) h Q := Ev.iadd (by decide +kernel : decode LW_law.2.1 850 = .ok (.iadd, 1)) kk
set_option maxRecDepth 20000 in
theorem LW_law_851 {X : SX} {d : Nat} {L : List Value} {st : List Value} {h : HH} {Q : Int32 → HH → Prop} {i : Int32} (hi : vp_in i X.1) (kk : E X d LW_law 852 L (.int (X.2 i.toNatClampNeg) :: st) h Q) : E X d LW_law 851 L (.int i :: .ref 1003 :: st) h Q := Ev.tScript (by decide +kernel : decode LW_law.2.1 851 = .ok (.iaload, 1)) hi kk
set_option maxRecDepth 20000 in
theorem LW_law_852 {X : SX} {d : Nat} {st : List Value} {h : HH} {Q : Int32 → HH → Prop} {a1 a2 a3 : Value}   (kk : E X d LW_law 853 [.ref 1003, a1, a2, a3] (.ref 1003 :: st) h Q) : E X d LW_law 852 [.ref 1003, a1, a2, a3] st h Q := Ev.aload_n (by decide +kernel : decode LW_law.2.1 852 = .ok (.aload_n 0, 1)) rfl rfl kk
set_option maxRecDepth 20000 in
theorem LW_law_853 {X : SX} {d : Nat} {st : List Value} {h : HH} {Q : Int32 → HH → Prop} {a0 a1 a2 : Value} {x : Int32}  (kk : E X d LW_law 854 [a0, a1, a2, .int x] (.int x :: st) h Q) : E X d LW_law 853 [a0, a1, a2, .int x] st h Q := Ev.iload_n (by decide +kernel : decode LW_law.2.1 853 = .ok (.iload_n 3, 1)) rfl rfl kk
set_option maxRecDepth 20000 in
theorem LW_law_854 {X : SX} {d : Nat} {L : List Value} {st : List Value} {h : HH} {Q : Int32 → HH → Prop}   (kk : E X d LW_law 855 L (.int 2 :: st) h Q) : E X d LW_law 854 L st h Q := Ev.iconst (by decide +kernel : decode LW_law.2.1 854 = .ok (.iconst 2, 1)) (by decide) kk
set_option maxRecDepth 20000 in
theorem LW_law_855 {X : SX} {d : Nat} {L : List Value} {st : List Value} {h : HH} {Q : Int32 → HH → Prop} {x z : Int32}  (kk : E X d LW_law 856 L (.int (x + z) :: st) h Q) : E X d LW_law 855 L (.int z :: .int x :: st) h Q := Ev.iadd (by decide +kernel : decode LW_law.2.1 855 = .ok (.iadd, 1)) kk
set_option maxRecDepth 20000 in
theorem LW_law_856 {X : SX} {d : Nat} {L : List Value} {st : List Value} {h : HH} {Q : Int32 → HH → Prop} {i : Int32} (hi : vp_in i X.1) (kk : E X d LW_law 857 L (.int (X.2 i.toNatClampNeg) :: st) h Q) : E X d LW_law 856 L (.int i :: .ref 1003 :: st) h Q := Ev.tScript (by decide +kernel : decode LW_law.2.1 856 = .ok (.iaload, 1)) hi kk
set_option maxRecDepth 20000 in
theorem LW_law_857 {X : SX} {d : Nat} {st : List Value} {h : HH} {Q : Int32 → HH → Prop} {a1 a2 a3 : Value}   (kk : E X d LW_law 858 [.ref 1003, a1, a2, a3] (.ref 1003 :: st) h Q) : E X d LW_law 857 [.ref 1003, a1, a2, a3] st h Q := Ev.aload_n (by decide +kernel : decode LW_law.2.1 857 = .ok (.aload_n 0, 1)) rfl rfl kk
set_option maxRecDepth 20000 in
theorem LW_law_858 {X : SX} {d : Nat} {st : List Value} {h : HH} {Q : Int32 → HH → Prop} {a0 a1 a2 : Value} {x : Int32}  (kk : E X d LW_law 859 [a0, a1, a2, .int x] (.int x :: st) h Q) : E X d LW_law 858 [a0, a1, a2, .int x] st h Q := Ev.iload_n (by decide +kernel : decode LW_law.2.1 858 = .ok (.iload_n 3, 1)) rfl rfl kk
set_option maxRecDepth 20000 in
theorem LW_law_859 {X : SX} {d : Nat} {L : List Value} {st : List Value} {h : HH} {Q : Int32 → HH → Prop}   (kk : E X d LW_law 860 L (.int 3 :: st) h Q) : E X d LW_law 859 L st h Q := Ev.iconst (by decide +kernel : decode LW_law.2.1 859 = .ok (.iconst 3, 1)) (by decide) kk
set_option maxRecDepth 20000 in
theorem LW_law_860 {X : SX} {d : Nat} {L : List Value} {st : List Value} {h : HH} {Q : Int32 → HH → Prop} {x z : Int32}  (kk : E X d LW_law 861 L (.int (x + z) :: st) h Q) : E X d LW_law 860 L (.int z :: .int x :: st) h Q := Ev.iadd (by decide +kernel : decode LW_law.2.1 860 = .ok (.iadd, 1)) kk
set_option maxRecDepth 20000 in
theorem LW_law_861 {X : SX} {d : Nat} {L : List Value} {st : List Value} {h : HH} {Q : Int32 → HH → Prop} {i : Int32} (hi : vp_in i X.1) (kk : E X d LW_law 862 L (.int (X.2 i.toNatClampNeg) :: st) h Q) : E X d LW_law 861 L (.int i :: .ref 1003 :: st) h Q := Ev.tScript (by decide +kernel : decode LW_law.2.1 861 = .ok (.iaload, 1)) hi kk
set_option maxRecDepth 20000 in
theorem LW_law_862 {X : SX} {d : Nat} {L : List Value} {st : List Value} {h : HH} {Q : Int32 → HH → Prop} {b0 : Int32} {b1 : Int32} {b2 : Int32}   (hc : (st.map (fun v => v.category)).sum ≤ 8) (kk : E X d FM_open 0 [.ref 57, .int b0, .int b1, .int b2] [] h (fun x h' => E X (d + 1) LW_law 865 L (.int x :: st) h' Q)) : E X (d + 1) LW_law 862 L (.int b2 :: .int b1 :: .int b0 :: .ref 57 :: st) h Q := E.callVi (n := 3) (ix := 90) (args := [.int b0, .int b1, .int b2]) (by decide +kernel : decode LW_law.2.1 862 = .ok (.invokevirtual 90, 3)) FM_open_ok rfl rfl rfl wd_1123 wd_1124 wd_1125 rfl FM_open_ds (Nat.le_of_ble_eq_true rfl) hc (by decide) kk
set_option maxRecDepth 20000 in
theorem LW_law_865 {X : SX} {d : Nat} {L : List Value} {st : List Value} {h : HH} {Q : Int32 → HH → Prop} {x z : Int32}  (kt : x = z → E X d LW_law 1477 L st h Q) (kf : ¬ x = z → E X d LW_law 868 L st h Q) : E X d LW_law 865 L (.int z :: .int x :: st) h Q := Ev.icmp_eq (tgt := 1477) (by decide +kernel : decode LW_law.2.1 865 = .ok (.if_icmp .eq 612, 3)) (by decide) kt kf
set_option maxRecDepth 20000 in
theorem LW_law_868 {X : SX} {d : Nat} {L : List Value} {st : List Value} {h : HH} {Q : Int32 → HH → Prop}   (kk : E X d LW_law 869 L (.int 0 :: st) h Q) : E X d LW_law 868 L st h Q := Ev.iconst (by decide +kernel : decode LW_law.2.1 868 = .ok (.iconst 0, 1)) (by decide) kk
set_option maxRecDepth 20000 in
theorem LW_law_869 {X : SX} {d : Nat} {L : List Value} {h : HH} {Q : Int32 → HH → Prop} {x : Int32} (hb : narrow .boolean (.int x) = .int x) (hq : Q x h)  : E X d LW_law 869 L [.int x] h Q := Ev.ireturn (by decide +kernel : decode LW_law.2.1 869 = .ok (.ireturn, 1)) rfl hb ⟨rfl, hq⟩
set_option maxRecDepth 20000 in
theorem LW_law_870 {X : SX} {d : Nat} {st : List Value} {h : HH} {Q : Int32 → HH → Prop} {a0 a2 a3 : Value}   (kk : E X d LW_law 871 [a0, .ref 0, a2, a3] (.ref 0 :: st) h Q) : E X d LW_law 870 [a0, .ref 0, a2, a3] st h Q := Ev.aload_n (by decide +kernel : decode LW_law.2.1 870 = .ok (.aload_n 1, 1)) rfl rfl kk
set_option maxRecDepth 20000 in
theorem LW_law_871 {X : SX} {d : Nat} {st : List Value} {h : HH} {Q : Int32 → HH → Prop} {a1 a2 a3 : Value}   (kk : E X d LW_law 872 [.ref 1003, a1, a2, a3] (.ref 1003 :: st) h Q) : E X d LW_law 871 [.ref 1003, a1, a2, a3] st h Q := Ev.aload_n (by decide +kernel : decode LW_law.2.1 871 = .ok (.aload_n 0, 1)) rfl rfl kk
set_option maxRecDepth 20000 in
theorem LW_law_872 {X : SX} {d : Nat} {st : List Value} {h : HH} {Q : Int32 → HH → Prop} {a0 a1 a2 : Value} {x : Int32}  (kk : E X d LW_law 873 [a0, a1, a2, .int x] (.int x :: st) h Q) : E X d LW_law 872 [a0, a1, a2, .int x] st h Q := Ev.iload_n (by decide +kernel : decode LW_law.2.1 872 = .ok (.iload_n 3, 1)) rfl rfl kk
set_option maxRecDepth 20000 in
theorem LW_law_873 {X : SX} {d : Nat} {L : List Value} {st : List Value} {h : HH} {Q : Int32 → HH → Prop}   (kk : E X d LW_law 874 L (.int 1 :: st) h Q) : E X d LW_law 873 L st h Q := Ev.iconst (by decide +kernel : decode LW_law.2.1 873 = .ok (.iconst 1, 1)) (by decide) kk
set_option maxRecDepth 20000 in
theorem LW_law_874 {X : SX} {d : Nat} {L : List Value} {st : List Value} {h : HH} {Q : Int32 → HH → Prop} {x z : Int32}  (kk : E X d LW_law 875 L (.int (x + z) :: st) h Q) : E X d LW_law 874 L (.int z :: .int x :: st) h Q := Ev.iadd (by decide +kernel : decode LW_law.2.1 874 = .ok (.iadd, 1)) kk
set_option maxRecDepth 20000 in
theorem LW_law_875 {X : SX} {d : Nat} {L : List Value} {st : List Value} {h : HH} {Q : Int32 → HH → Prop} {i : Int32} (hi : vp_in i X.1) (kk : E X d LW_law 876 L (.int (X.2 i.toNatClampNeg) :: st) h Q) : E X d LW_law 875 L (.int i :: .ref 1003 :: st) h Q := Ev.tScript (by decide +kernel : decode LW_law.2.1 875 = .ok (.iaload, 1)) hi kk
set_option maxRecDepth 20000 in
theorem LW_law_876 {X : SX} {d : Nat} {st : List Value} {h : HH} {Q : Int32 → HH → Prop} {a1 a2 a3 : Value}   (kk : E X d LW_law 877 [.ref 1003, a1, a2, a3] (.ref 1003 :: st) h Q) : E X d LW_law 876 [.ref 1003, a1, a2, a3] st h Q := Ev.aload_n (by decide +kernel : decode LW_law.2.1 876 = .ok (.aload_n 0, 1)) rfl rfl kk
set_option maxRecDepth 20000 in
theorem LW_law_877 {X : SX} {d : Nat} {st : List Value} {h : HH} {Q : Int32 → HH → Prop} {a0 a1 a2 : Value} {x : Int32}  (kk : E X d LW_law 878 [a0, a1, a2, .int x] (.int x :: st) h Q) : E X d LW_law 877 [a0, a1, a2, .int x] st h Q := Ev.iload_n (by decide +kernel : decode LW_law.2.1 877 = .ok (.iload_n 3, 1)) rfl rfl kk
set_option maxRecDepth 20000 in
theorem LW_law_878 {X : SX} {d : Nat} {L : List Value} {st : List Value} {h : HH} {Q : Int32 → HH → Prop}   (kk : E X d LW_law 879 L (.int 2 :: st) h Q) : E X d LW_law 878 L st h Q := Ev.iconst (by decide +kernel : decode LW_law.2.1 878 = .ok (.iconst 2, 1)) (by decide) kk
set_option maxRecDepth 20000 in
theorem LW_law_879 {X : SX} {d : Nat} {L : List Value} {st : List Value} {h : HH} {Q : Int32 → HH → Prop} {x z : Int32}  (kk : E X d LW_law 880 L (.int (x + z) :: st) h Q) : E X d LW_law 879 L (.int z :: .int x :: st) h Q := Ev.iadd (by decide +kernel : decode LW_law.2.1 879 = .ok (.iadd, 1)) kk
set_option maxRecDepth 20000 in
theorem LW_law_880 {X : SX} {d : Nat} {L : List Value} {st : List Value} {h : HH} {Q : Int32 → HH → Prop} {i : Int32} (hi : vp_in i X.1) (kk : E X d LW_law 881 L (.int (X.2 i.toNatClampNeg) :: st) h Q) : E X d LW_law 880 L (.int i :: .ref 1003 :: st) h Q := Ev.tScript (by decide +kernel : decode LW_law.2.1 880 = .ok (.iaload, 1)) hi kk
set_option maxRecDepth 20000 in
theorem LW_law_881 {X : SX} {d : Nat} {st : List Value} {h : HH} {Q : Int32 → HH → Prop} {a1 a2 a3 : Value}   (kk : E X d LW_law 882 [.ref 1003, a1, a2, a3] (.ref 1003 :: st) h Q) : E X d LW_law 881 [.ref 1003, a1, a2, a3] st h Q := Ev.aload_n (by decide +kernel : decode LW_law.2.1 881 = .ok (.aload_n 0, 1)) rfl rfl kk
set_option maxRecDepth 20000 in
theorem LW_law_882 {X : SX} {d : Nat} {st : List Value} {h : HH} {Q : Int32 → HH → Prop} {a0 a1 a2 : Value} {x : Int32}  (kk : E X d LW_law 883 [a0, a1, a2, .int x] (.int x :: st) h Q) : E X d LW_law 882 [a0, a1, a2, .int x] st h Q := Ev.iload_n (by decide +kernel : decode LW_law.2.1 882 = .ok (.iload_n 3, 1)) rfl rfl kk
set_option maxRecDepth 20000 in
theorem LW_law_883 {X : SX} {d : Nat} {L : List Value} {st : List Value} {h : HH} {Q : Int32 → HH → Prop}   (kk : E X d LW_law 884 L (.int 3 :: st) h Q) : E X d LW_law 883 L st h Q := Ev.iconst (by decide +kernel : decode LW_law.2.1 883 = .ok (.iconst 3, 1)) (by decide) kk
set_option maxRecDepth 20000 in
theorem LW_law_884 {X : SX} {d : Nat} {L : List Value} {st : List Value} {h : HH} {Q : Int32 → HH → Prop} {x z : Int32}  (kk : E X d LW_law 885 L (.int (x + z) :: st) h Q) : E X d LW_law 884 L (.int z :: .int x :: st) h Q := Ev.iadd (by decide +kernel : decode LW_law.2.1 884 = .ok (.iadd, 1)) kk
set_option maxRecDepth 20000 in
theorem LW_law_885 {X : SX} {d : Nat} {L : List Value} {st : List Value} {h : HH} {Q : Int32 → HH → Prop} {i : Int32} (hi : vp_in i X.1) (kk : E X d LW_law 886 L (.int (X.2 i.toNatClampNeg) :: st) h Q) : E X d LW_law 885 L (.int i :: .ref 1003 :: st) h Q := Ev.tScript (by decide +kernel : decode LW_law.2.1 885 = .ok (.iaload, 1)) hi kk
set_option maxRecDepth 20000 in
theorem LW_law_886 {X : SX} {d : Nat} {st : List Value} {h : HH} {Q : Int32 → HH → Prop} {a1 a2 a3 : Value}   (kk : E X d LW_law 887 [.ref 1003, a1, a2, a3] (.ref 1003 :: st) h Q) : E X d LW_law 886 [.ref 1003, a1, a2, a3] st h Q := Ev.aload_n (by decide +kernel : decode LW_law.2.1 886 = .ok (.aload_n 0, 1)) rfl rfl kk
set_option maxRecDepth 20000 in
theorem LW_law_887 {X : SX} {d : Nat} {st : List Value} {h : HH} {Q : Int32 → HH → Prop} {a0 a1 a2 : Value} {x : Int32}  (kk : E X d LW_law 888 [a0, a1, a2, .int x] (.int x :: st) h Q) : E X d LW_law 887 [a0, a1, a2, .int x] st h Q := Ev.iload_n (by decide +kernel : decode LW_law.2.1 887 = .ok (.iload_n 3, 1)) rfl rfl kk
set_option maxRecDepth 20000 in
theorem LW_law_888 {X : SX} {d : Nat} {L : List Value} {st : List Value} {h : HH} {Q : Int32 → HH → Prop}   (kk : E X d LW_law 889 L (.int 4 :: st) h Q) : E X d LW_law 888 L st h Q := Ev.iconst (by decide +kernel : decode LW_law.2.1 888 = .ok (.iconst 4, 1)) (by decide) kk
set_option maxRecDepth 20000 in
theorem LW_law_889 {X : SX} {d : Nat} {L : List Value} {st : List Value} {h : HH} {Q : Int32 → HH → Prop} {x z : Int32}  (kk : E X d LW_law 890 L (.int (x + z) :: st) h Q) : E X d LW_law 889 L (.int z :: .int x :: st) h Q := Ev.iadd (by decide +kernel : decode LW_law.2.1 889 = .ok (.iadd, 1)) kk
set_option maxRecDepth 20000 in
theorem LW_law_890 {X : SX} {d : Nat} {L : List Value} {st : List Value} {h : HH} {Q : Int32 → HH → Prop} {i : Int32} (hi : vp_in i X.1) (kk : E X d LW_law 891 L (.int (X.2 i.toNatClampNeg) :: st) h Q) : E X d LW_law 890 L (.int i :: .ref 1003 :: st) h Q := Ev.tScript (by decide +kernel : decode LW_law.2.1 890 = .ok (.iaload, 1)) hi kk
set_option maxRecDepth 20000 in
theorem LW_law_891 {X : SX} {d : Nat} {L : List Value} {st : List Value} {h : HH} {Q : Int32 → HH → Prop} {b0 : Int32} {b1 : Int32} {b2 : Int32} {b3 : Int32}   (hc : (st.map (fun v => v.category)).sum ≤ 8) (kk : E X d FC_why 0 [.ref 0, .int b0, .int b1, .int b2, .int b3, U0] [] h (fun x h' => E X (d + 1) LW_law 894 L (.int x :: st) h' Q)) : E X (d + 1) LW_law 891 L (.int b3 :: .int b2 :: .int b1 :: .int b0 :: .ref 0 :: st) h Q := E.callVi (n := 4) (ix := 91) (args := [.int b0, .int b1, .int b2, .int b3]) (by decide +kernel : decode LW_law.2.1 891 = .ok (.invokevirtual 91, 3)) FC_why_ok rfl rfl rfl wd_653 wd_654 wd_655 rfl FC_why_ds (Nat.le_of_ble_eq_true rfl) hc (by decide) kk
set_option maxRecDepth 20000 in
theorem LW_law_894 {X : SX} {d : Nat} {st : List Value} {h : HH} {Q : Int32 → HH → Prop} {a0 a1 a3 : Value}   (kk : E X d LW_law 895 [a0, a1, .ref 57, a3] (.ref 57 :: st) h Q) : E X d LW_law 894 [a0, a1, .ref 57, a3] st h Q := Ev.aload_n (by decide +kernel : decode LW_law.2.1 894 = .ok (.aload_n 2, 1)) rfl rfl kk
set_option maxRecDepth 20000 in
theorem LW_law_895 {X : SX} {d : Nat} {st : List Value} {h : HH} {Q : Int32 → HH → Prop} {a1 a2 a3 : Value}   (kk : E X d LW_law 896 [.ref 1003, a1, a2, a3] (.ref 1003 :: st) h Q) : E X d LW_law 895 [.ref 1003, a1, a2, a3] st h Q := Ev.aload_n (by decide +kernel : decode LW_law.2.1 895 = .ok (.aload_n 0, 1)) rfl rfl kk
set_option maxRecDepth 20000 in
theorem LW_law_896 {X : SX} {d : Nat} {st : List Value} {h : HH} {Q : Int32 → HH → Prop} {a0 a1 a2 : Value} {x : Int32}  (kk : E X d LW_law 897 [a0, a1, a2, .int x] (.int x :: st) h Q) : E X d LW_law 896 [a0, a1, a2, .int x] st h Q := Ev.iload_n (by decide +kernel : decode LW_law.2.1 896 = .ok (.iload_n 3, 1)) rfl rfl kk
set_option maxRecDepth 20000 in
theorem LW_law_897 {X : SX} {d : Nat} {L : List Value} {st : List Value} {h : HH} {Q : Int32 → HH → Prop}   (kk : E X d LW_law 898 L (.int 1 :: st) h Q) : E X d LW_law 897 L st h Q := Ev.iconst (by decide +kernel : decode LW_law.2.1 897 = .ok (.iconst 1, 1)) (by decide) kk
set_option maxRecDepth 20000 in
theorem LW_law_898 {X : SX} {d : Nat} {L : List Value} {st : List Value} {h : HH} {Q : Int32 → HH → Prop} {x z : Int32}  (kk : E X d LW_law 899 L (.int (x + z) :: st) h Q) : E X d LW_law 898 L (.int z :: .int x :: st) h Q := Ev.iadd (by decide +kernel : decode LW_law.2.1 898 = .ok (.iadd, 1)) kk
set_option maxRecDepth 20000 in
theorem LW_law_899 {X : SX} {d : Nat} {L : List Value} {st : List Value} {h : HH} {Q : Int32 → HH → Prop} {i : Int32} (hi : vp_in i X.1) (kk : E X d LW_law 900 L (.int (X.2 i.toNatClampNeg) :: st) h Q) : E X d LW_law 899 L (.int i :: .ref 1003 :: st) h Q := Ev.tScript (by decide +kernel : decode LW_law.2.1 899 = .ok (.iaload, 1)) hi kk
set_option maxRecDepth 20000 in
theorem LW_law_900 {X : SX} {d : Nat} {st : List Value} {h : HH} {Q : Int32 → HH → Prop} {a1 a2 a3 : Value}   (kk : E X d LW_law 901 [.ref 1003, a1, a2, a3] (.ref 1003 :: st) h Q) : E X d LW_law 900 [.ref 1003, a1, a2, a3] st h Q := Ev.aload_n (by decide +kernel : decode LW_law.2.1 900 = .ok (.aload_n 0, 1)) rfl rfl kk
set_option maxRecDepth 20000 in
theorem LW_law_901 {X : SX} {d : Nat} {st : List Value} {h : HH} {Q : Int32 → HH → Prop} {a0 a1 a2 : Value} {x : Int32}  (kk : E X d LW_law 902 [a0, a1, a2, .int x] (.int x :: st) h Q) : E X d LW_law 901 [a0, a1, a2, .int x] st h Q := Ev.iload_n (by decide +kernel : decode LW_law.2.1 901 = .ok (.iload_n 3, 1)) rfl rfl kk
set_option maxRecDepth 20000 in
theorem LW_law_902 {X : SX} {d : Nat} {L : List Value} {st : List Value} {h : HH} {Q : Int32 → HH → Prop}   (kk : E X d LW_law 903 L (.int 2 :: st) h Q) : E X d LW_law 902 L st h Q := Ev.iconst (by decide +kernel : decode LW_law.2.1 902 = .ok (.iconst 2, 1)) (by decide) kk
set_option maxRecDepth 20000 in
theorem LW_law_903 {X : SX} {d : Nat} {L : List Value} {st : List Value} {h : HH} {Q : Int32 → HH → Prop} {x z : Int32}  (kk : E X d LW_law 904 L (.int (x + z) :: st) h Q) : E X d LW_law 903 L (.int z :: .int x :: st) h Q := Ev.iadd (by decide +kernel : decode LW_law.2.1 903 = .ok (.iadd, 1)) kk
set_option maxRecDepth 20000 in
theorem LW_law_904 {X : SX} {d : Nat} {L : List Value} {st : List Value} {h : HH} {Q : Int32 → HH → Prop} {i : Int32} (hi : vp_in i X.1) (kk : E X d LW_law 905 L (.int (X.2 i.toNatClampNeg) :: st) h Q) : E X d LW_law 904 L (.int i :: .ref 1003 :: st) h Q := Ev.tScript (by decide +kernel : decode LW_law.2.1 904 = .ok (.iaload, 1)) hi kk
set_option maxRecDepth 20000 in
theorem LW_law_905 {X : SX} {d : Nat} {st : List Value} {h : HH} {Q : Int32 → HH → Prop} {a1 a2 a3 : Value}   (kk : E X d LW_law 906 [.ref 1003, a1, a2, a3] (.ref 1003 :: st) h Q) : E X d LW_law 905 [.ref 1003, a1, a2, a3] st h Q := Ev.aload_n (by decide +kernel : decode LW_law.2.1 905 = .ok (.aload_n 0, 1)) rfl rfl kk
set_option maxRecDepth 20000 in
theorem LW_law_906 {X : SX} {d : Nat} {st : List Value} {h : HH} {Q : Int32 → HH → Prop} {a0 a1 a2 : Value} {x : Int32}  (kk : E X d LW_law 907 [a0, a1, a2, .int x] (.int x :: st) h Q) : E X d LW_law 906 [a0, a1, a2, .int x] st h Q := Ev.iload_n (by decide +kernel : decode LW_law.2.1 906 = .ok (.iload_n 3, 1)) rfl rfl kk
set_option maxRecDepth 20000 in
theorem LW_law_907 {X : SX} {d : Nat} {L : List Value} {st : List Value} {h : HH} {Q : Int32 → HH → Prop}   (kk : E X d LW_law 908 L (.int 3 :: st) h Q) : E X d LW_law 907 L st h Q := Ev.iconst (by decide +kernel : decode LW_law.2.1 907 = .ok (.iconst 3, 1)) (by decide) kk
set_option maxRecDepth 20000 in
theorem LW_law_908 {X : SX} {d : Nat} {L : List Value} {st : List Value} {h : HH} {Q : Int32 → HH → Prop} {x z : Int32}  (kk : E X d LW_law 909 L (.int (x + z) :: st) h Q) : E X d LW_law 908 L (.int z :: .int x :: st) h Q := Ev.iadd (by decide +kernel : decode LW_law.2.1 908 = .ok (.iadd, 1)) kk
set_option maxRecDepth 20000 in
theorem LW_law_909 {X : SX} {d : Nat} {L : List Value} {st : List Value} {h : HH} {Q : Int32 → HH → Prop} {i : Int32} (hi : vp_in i X.1) (kk : E X d LW_law 910 L (.int (X.2 i.toNatClampNeg) :: st) h Q) : E X d LW_law 909 L (.int i :: .ref 1003 :: st) h Q := Ev.tScript (by decide +kernel : decode LW_law.2.1 909 = .ok (.iaload, 1)) hi kk
set_option maxRecDepth 20000 in
theorem LW_law_910 {X : SX} {d : Nat} {st : List Value} {h : HH} {Q : Int32 → HH → Prop} {a1 a2 a3 : Value}   (kk : E X d LW_law 911 [.ref 1003, a1, a2, a3] (.ref 1003 :: st) h Q) : E X d LW_law 910 [.ref 1003, a1, a2, a3] st h Q := Ev.aload_n (by decide +kernel : decode LW_law.2.1 910 = .ok (.aload_n 0, 1)) rfl rfl kk
set_option maxRecDepth 20000 in
theorem LW_law_911 {X : SX} {d : Nat} {st : List Value} {h : HH} {Q : Int32 → HH → Prop} {a0 a1 a2 : Value} {x : Int32}  (kk : E X d LW_law 912 [a0, a1, a2, .int x] (.int x :: st) h Q) : E X d LW_law 911 [a0, a1, a2, .int x] st h Q := Ev.iload_n (by decide +kernel : decode LW_law.2.1 911 = .ok (.iload_n 3, 1)) rfl rfl kk
set_option maxRecDepth 20000 in
theorem LW_law_912 {X : SX} {d : Nat} {L : List Value} {st : List Value} {h : HH} {Q : Int32 → HH → Prop}   (kk : E X d LW_law 913 L (.int 4 :: st) h Q) : E X d LW_law 912 L st h Q := Ev.iconst (by decide +kernel : decode LW_law.2.1 912 = .ok (.iconst 4, 1)) (by decide) kk
set_option maxRecDepth 20000 in
theorem LW_law_913 {X : SX} {d : Nat} {L : List Value} {st : List Value} {h : HH} {Q : Int32 → HH → Prop} {x z : Int32}  (kk : E X d LW_law 914 L (.int (x + z) :: st) h Q) : E X d LW_law 913 L (.int z :: .int x :: st) h Q := Ev.iadd (by decide +kernel : decode LW_law.2.1 913 = .ok (.iadd, 1)) kk
set_option maxRecDepth 20000 in
theorem LW_law_914 {X : SX} {d : Nat} {L : List Value} {st : List Value} {h : HH} {Q : Int32 → HH → Prop} {i : Int32} (hi : vp_in i X.1) (kk : E X d LW_law 915 L (.int (X.2 i.toNatClampNeg) :: st) h Q) : E X d LW_law 914 L (.int i :: .ref 1003 :: st) h Q := Ev.tScript (by decide +kernel : decode LW_law.2.1 914 = .ok (.iaload, 1)) hi kk
set_option maxRecDepth 20000 in
theorem LW_law_915 {X : SX} {d : Nat} {L : List Value} {st : List Value} {h : HH} {Q : Int32 → HH → Prop} {b0 : Int32} {b1 : Int32} {b2 : Int32} {b3 : Int32}   (hc : (st.map (fun v => v.category)).sum ≤ 8) (kk : E X d FM_why 0 [.ref 57, .int b0, .int b1, .int b2, .int b3, U0] [] h (fun x h' => E X (d + 1) LW_law 918 L (.int x :: st) h' Q)) : E X (d + 1) LW_law 915 L (.int b3 :: .int b2 :: .int b1 :: .int b0 :: .ref 57 :: st) h Q := E.callVi (n := 4) (ix := 94) (args := [.int b0, .int b1, .int b2, .int b3]) (by decide +kernel : decode LW_law.2.1 915 = .ok (.invokevirtual 94, 3)) FM_why_ok rfl rfl rfl wd_1135 wd_1136 wd_1137 rfl FM_why_ds (Nat.le_of_ble_eq_true rfl) hc (by decide) kk
set_option maxRecDepth 20000 in
theorem LW_law_918 {X : SX} {d : Nat} {L : List Value} {st : List Value} {h : HH} {Q : Int32 → HH → Prop} {x z : Int32}  (kt : x = z → E X d LW_law 1477 L st h Q) (kf : ¬ x = z → E X d LW_law 921 L st h Q) : E X d LW_law 918 L (.int z :: .int x :: st) h Q := Ev.icmp_eq (tgt := 1477) (by decide +kernel : decode LW_law.2.1 918 = .ok (.if_icmp .eq 559, 3)) (by decide) kt kf
set_option maxRecDepth 20000 in
theorem LW_law_921 {X : SX} {d : Nat} {L : List Value} {st : List Value} {h : HH} {Q : Int32 → HH → Prop}   (kk : E X d LW_law 922 L (.int 0 :: st) h Q) : E X d LW_law 921 L st h Q := Ev.iconst (by decide +kernel : decode LW_law.2.1 921 = .ok (.iconst 0, 1)) (by decide) kk
set_option maxRecDepth 20000 in
theorem LW_law_922 {X : SX} {d : Nat} {L : List Value} {h : HH} {Q : Int32 → HH → Prop} {x : Int32} (hb : narrow .boolean (.int x) = .int x) (hq : Q x h)  : E X d LW_law 922 L [.int x] h Q := Ev.ireturn (by decide +kernel : decode LW_law.2.1 922 = .ok (.ireturn, 1)) rfl hb ⟨rfl, hq⟩
set_option maxRecDepth 20000 in
theorem LW_law_923 {X : SX} {d : Nat} {st : List Value} {h : HH} {Q : Int32 → HH → Prop} {a0 a2 a3 : Value}   (kk : E X d LW_law 924 [a0, .ref 0, a2, a3] (.ref 0 :: st) h Q) : E X d LW_law 923 [a0, .ref 0, a2, a3] st h Q := Ev.aload_n (by decide +kernel : decode LW_law.2.1 923 = .ok (.aload_n 1, 1)) rfl rfl kk
set_option maxRecDepth 20000 in
theorem LW_law_924 {X : SX} {d : Nat} {st : List Value} {h : HH} {Q : Int32 → HH → Prop} {a1 a2 a3 : Value}   (kk : E X d LW_law 925 [.ref 1003, a1, a2, a3] (.ref 1003 :: st) h Q) : E X d LW_law 924 [.ref 1003, a1, a2, a3] st h Q := Ev.aload_n (by decide +kernel : decode LW_law.2.1 924 = .ok (.aload_n 0, 1)) rfl rfl kk
set_option maxRecDepth 20000 in
theorem LW_law_925 {X : SX} {d : Nat} {st : List Value} {h : HH} {Q : Int32 → HH → Prop} {a0 a1 a2 : Value} {x : Int32}  (kk : E X d LW_law 926 [a0, a1, a2, .int x] (.int x :: st) h Q) : E X d LW_law 925 [a0, a1, a2, .int x] st h Q := Ev.iload_n (by decide +kernel : decode LW_law.2.1 925 = .ok (.iload_n 3, 1)) rfl rfl kk
set_option maxRecDepth 20000 in
theorem LW_law_926 {X : SX} {d : Nat} {L : List Value} {st : List Value} {h : HH} {Q : Int32 → HH → Prop}   (kk : E X d LW_law 927 L (.int 1 :: st) h Q) : E X d LW_law 926 L st h Q := Ev.iconst (by decide +kernel : decode LW_law.2.1 926 = .ok (.iconst 1, 1)) (by decide) kk
set_option maxRecDepth 20000 in
theorem LW_law_927 {X : SX} {d : Nat} {L : List Value} {st : List Value} {h : HH} {Q : Int32 → HH → Prop} {x z : Int32}  (kk : E X d LW_law 928 L (.int (x + z) :: st) h Q) : E X d LW_law 927 L (.int z :: .int x :: st) h Q := Ev.iadd (by decide +kernel : decode LW_law.2.1 927 = .ok (.iadd, 1)) kk
set_option maxRecDepth 20000 in
theorem LW_law_928 {X : SX} {d : Nat} {L : List Value} {st : List Value} {h : HH} {Q : Int32 → HH → Prop} {i : Int32} (hi : vp_in i X.1) (kk : E X d LW_law 929 L (.int (X.2 i.toNatClampNeg) :: st) h Q) : E X d LW_law 928 L (.int i :: .ref 1003 :: st) h Q := Ev.tScript (by decide +kernel : decode LW_law.2.1 928 = .ok (.iaload, 1)) hi kk
set_option maxRecDepth 20000 in
theorem LW_law_929 {X : SX} {d : Nat} {st : List Value} {h : HH} {Q : Int32 → HH → Prop} {a1 a2 a3 : Value}   (kk : E X d LW_law 930 [.ref 1003, a1, a2, a3] (.ref 1003 :: st) h Q) : E X d LW_law 929 [.ref 1003, a1, a2, a3] st h Q := Ev.aload_n (by decide +kernel : decode LW_law.2.1 929 = .ok (.aload_n 0, 1)) rfl rfl kk
set_option maxRecDepth 20000 in
theorem LW_law_930 {X : SX} {d : Nat} {st : List Value} {h : HH} {Q : Int32 → HH → Prop} {a0 a1 a2 : Value} {x : Int32}  (kk : E X d LW_law 931 [a0, a1, a2, .int x] (.int x :: st) h Q) : E X d LW_law 930 [a0, a1, a2, .int x] st h Q := Ev.iload_n (by decide +kernel : decode LW_law.2.1 930 = .ok (.iload_n 3, 1)) rfl rfl kk
set_option maxRecDepth 20000 in
theorem LW_law_931 {X : SX} {d : Nat} {L : List Value} {st : List Value} {h : HH} {Q : Int32 → HH → Prop}   (kk : E X d LW_law 932 L (.int 2 :: st) h Q) : E X d LW_law 931 L st h Q := Ev.iconst (by decide +kernel : decode LW_law.2.1 931 = .ok (.iconst 2, 1)) (by decide) kk
set_option maxRecDepth 20000 in
theorem LW_law_932 {X : SX} {d : Nat} {L : List Value} {st : List Value} {h : HH} {Q : Int32 → HH → Prop} {x z : Int32}  (kk : E X d LW_law 933 L (.int (x + z) :: st) h Q) : E X d LW_law 932 L (.int z :: .int x :: st) h Q := Ev.iadd (by decide +kernel : decode LW_law.2.1 932 = .ok (.iadd, 1)) kk
set_option maxRecDepth 20000 in
theorem LW_law_933 {X : SX} {d : Nat} {L : List Value} {st : List Value} {h : HH} {Q : Int32 → HH → Prop} {i : Int32} (hi : vp_in i X.1) (kk : E X d LW_law 934 L (.int (X.2 i.toNatClampNeg) :: st) h Q) : E X d LW_law 933 L (.int i :: .ref 1003 :: st) h Q := Ev.tScript (by decide +kernel : decode LW_law.2.1 933 = .ok (.iaload, 1)) hi kk
set_option maxRecDepth 20000 in
theorem LW_law_934 {X : SX} {d : Nat} {L : List Value} {st : List Value} {h : HH} {Q : Int32 → HH → Prop} {b0 : Int32} {b1 : Int32}   (hc : (st.map (fun v => v.category)).sum ≤ 8) (kk : E X d FC_was 0 [.ref 0, .int b0, .int b1] [] h (fun x h' => E X (d + 1) LW_law 937 L (.int x :: st) h' Q)) : E X (d + 1) LW_law 934 L (.int b1 :: .int b0 :: .ref 0 :: st) h Q := E.callVi (n := 2) (ix := 95) (args := [.int b0, .int b1]) (by decide +kernel : decode LW_law.2.1 934 = .ok (.invokevirtual 95, 3)) FC_was_ok rfl rfl rfl wd_661 wd_662 wd_663 rfl FC_was_ds (Nat.le_of_ble_eq_true rfl) hc (by decide) kk
set_option maxRecDepth 20000 in
theorem LW_law_937 {X : SX} {d : Nat} {st : List Value} {h : HH} {Q : Int32 → HH → Prop} {a0 a1 a3 : Value}   (kk : E X d LW_law 938 [a0, a1, .ref 57, a3] (.ref 57 :: st) h Q) : E X d LW_law 937 [a0, a1, .ref 57, a3] st h Q := Ev.aload_n (by decide +kernel : decode LW_law.2.1 937 = .ok (.aload_n 2, 1)) rfl rfl kk
set_option maxRecDepth 20000 in
theorem LW_law_938 {X : SX} {d : Nat} {st : List Value} {h : HH} {Q : Int32 → HH → Prop} {a1 a2 a3 : Value}   (kk : E X d LW_law 939 [.ref 1003, a1, a2, a3] (.ref 1003 :: st) h Q) : E X d LW_law 938 [.ref 1003, a1, a2, a3] st h Q := Ev.aload_n (by decide +kernel : decode LW_law.2.1 938 = .ok (.aload_n 0, 1)) rfl rfl kk
set_option maxRecDepth 20000 in
theorem LW_law_939 {X : SX} {d : Nat} {st : List Value} {h : HH} {Q : Int32 → HH → Prop} {a0 a1 a2 : Value} {x : Int32}  (kk : E X d LW_law 940 [a0, a1, a2, .int x] (.int x :: st) h Q) : E X d LW_law 939 [a0, a1, a2, .int x] st h Q := Ev.iload_n (by decide +kernel : decode LW_law.2.1 939 = .ok (.iload_n 3, 1)) rfl rfl kk
set_option maxRecDepth 20000 in
theorem LW_law_940 {X : SX} {d : Nat} {L : List Value} {st : List Value} {h : HH} {Q : Int32 → HH → Prop}   (kk : E X d LW_law 941 L (.int 1 :: st) h Q) : E X d LW_law 940 L st h Q := Ev.iconst (by decide +kernel : decode LW_law.2.1 940 = .ok (.iconst 1, 1)) (by decide) kk
set_option maxRecDepth 20000 in
theorem LW_law_941 {X : SX} {d : Nat} {L : List Value} {st : List Value} {h : HH} {Q : Int32 → HH → Prop} {x z : Int32}  (kk : E X d LW_law 942 L (.int (x + z) :: st) h Q) : E X d LW_law 941 L (.int z :: .int x :: st) h Q := Ev.iadd (by decide +kernel : decode LW_law.2.1 941 = .ok (.iadd, 1)) kk
set_option maxRecDepth 20000 in
theorem LW_law_942 {X : SX} {d : Nat} {L : List Value} {st : List Value} {h : HH} {Q : Int32 → HH → Prop} {i : Int32} (hi : vp_in i X.1) (kk : E X d LW_law 943 L (.int (X.2 i.toNatClampNeg) :: st) h Q) : E X d LW_law 942 L (.int i :: .ref 1003 :: st) h Q := Ev.tScript (by decide +kernel : decode LW_law.2.1 942 = .ok (.iaload, 1)) hi kk
set_option maxRecDepth 20000 in
theorem LW_law_943 {X : SX} {d : Nat} {st : List Value} {h : HH} {Q : Int32 → HH → Prop} {a1 a2 a3 : Value}   (kk : E X d LW_law 944 [.ref 1003, a1, a2, a3] (.ref 1003 :: st) h Q) : E X d LW_law 943 [.ref 1003, a1, a2, a3] st h Q := Ev.aload_n (by decide +kernel : decode LW_law.2.1 943 = .ok (.aload_n 0, 1)) rfl rfl kk
set_option maxRecDepth 20000 in
theorem LW_law_944 {X : SX} {d : Nat} {st : List Value} {h : HH} {Q : Int32 → HH → Prop} {a0 a1 a2 : Value} {x : Int32}  (kk : E X d LW_law 945 [a0, a1, a2, .int x] (.int x :: st) h Q) : E X d LW_law 944 [a0, a1, a2, .int x] st h Q := Ev.iload_n (by decide +kernel : decode LW_law.2.1 944 = .ok (.iload_n 3, 1)) rfl rfl kk
set_option maxRecDepth 20000 in
theorem LW_law_945 {X : SX} {d : Nat} {L : List Value} {st : List Value} {h : HH} {Q : Int32 → HH → Prop}   (kk : E X d LW_law 946 L (.int 2 :: st) h Q) : E X d LW_law 945 L st h Q := Ev.iconst (by decide +kernel : decode LW_law.2.1 945 = .ok (.iconst 2, 1)) (by decide) kk
set_option maxRecDepth 20000 in
theorem LW_law_946 {X : SX} {d : Nat} {L : List Value} {st : List Value} {h : HH} {Q : Int32 → HH → Prop} {x z : Int32}  (kk : E X d LW_law 947 L (.int (x + z) :: st) h Q) : E X d LW_law 946 L (.int z :: .int x :: st) h Q := Ev.iadd (by decide +kernel : decode LW_law.2.1 946 = .ok (.iadd, 1)) kk
set_option maxRecDepth 20000 in
theorem LW_law_947 {X : SX} {d : Nat} {L : List Value} {st : List Value} {h : HH} {Q : Int32 → HH → Prop} {i : Int32} (hi : vp_in i X.1) (kk : E X d LW_law 948 L (.int (X.2 i.toNatClampNeg) :: st) h Q) : E X d LW_law 947 L (.int i :: .ref 1003 :: st) h Q := Ev.tScript (by decide +kernel : decode LW_law.2.1 947 = .ok (.iaload, 1)) hi kk
set_option maxRecDepth 20000 in
theorem LW_law_948 {X : SX} {d : Nat} {L : List Value} {st : List Value} {h : HH} {Q : Int32 → HH → Prop} {b0 : Int32} {b1 : Int32}   (hc : (st.map (fun v => v.category)).sum ≤ 8) (kk : E X d FM_was 0 [.ref 57, .int b0, .int b1] [] h (fun x h' => E X (d + 1) LW_law 951 L (.int x :: st) h' Q)) : E X (d + 1) LW_law 948 L (.int b1 :: .int b0 :: .ref 57 :: st) h Q := E.callVi (n := 2) (ix := 98) (args := [.int b0, .int b1]) (by decide +kernel : decode LW_law.2.1 948 = .ok (.invokevirtual 98, 3)) FM_was_ok rfl rfl rfl wd_1139 wd_1140 wd_1141 rfl FM_was_ds (Nat.le_of_ble_eq_true rfl) hc (by decide) kk
set_option maxRecDepth 20000 in
theorem LW_law_951 {X : SX} {d : Nat} {L : List Value} {st : List Value} {h : HH} {Q : Int32 → HH → Prop} {x z : Int32}  (kt : x = z → E X d LW_law 1477 L st h Q) (kf : ¬ x = z → E X d LW_law 954 L st h Q) : E X d LW_law 951 L (.int z :: .int x :: st) h Q := Ev.icmp_eq (tgt := 1477) (by decide +kernel : decode LW_law.2.1 951 = .ok (.if_icmp .eq 526, 3)) (by decide) kt kf
set_option maxRecDepth 20000 in
theorem LW_law_954 {X : SX} {d : Nat} {L : List Value} {st : List Value} {h : HH} {Q : Int32 → HH → Prop}   (kk : E X d LW_law 955 L (.int 0 :: st) h Q) : E X d LW_law 954 L st h Q := Ev.iconst (by decide +kernel : decode LW_law.2.1 954 = .ok (.iconst 0, 1)) (by decide) kk
set_option maxRecDepth 20000 in
theorem LW_law_955 {X : SX} {d : Nat} {L : List Value} {h : HH} {Q : Int32 → HH → Prop} {x : Int32} (hb : narrow .boolean (.int x) = .int x) (hq : Q x h)  : E X d LW_law 955 L [.int x] h Q := Ev.ireturn (by decide +kernel : decode LW_law.2.1 955 = .ok (.ireturn, 1)) rfl hb ⟨rfl, hq⟩
set_option maxRecDepth 20000 in
theorem LW_law_956 {X : SX} {d : Nat} {st : List Value} {h : HH} {Q : Int32 → HH → Prop} {a0 a2 a3 : Value}   (kk : E X d LW_law 957 [a0, .ref 0, a2, a3] (.ref 0 :: st) h Q) : E X d LW_law 956 [a0, .ref 0, a2, a3] st h Q := Ev.aload_n (by decide +kernel : decode LW_law.2.1 956 = .ok (.aload_n 1, 1)) rfl rfl kk
set_option maxRecDepth 20000 in
theorem LW_law_957 {X : SX} {d : Nat} {st : List Value} {h : HH} {Q : Int32 → HH → Prop} {a1 a2 a3 : Value}   (kk : E X d LW_law 958 [.ref 1003, a1, a2, a3] (.ref 1003 :: st) h Q) : E X d LW_law 957 [.ref 1003, a1, a2, a3] st h Q := Ev.aload_n (by decide +kernel : decode LW_law.2.1 957 = .ok (.aload_n 0, 1)) rfl rfl kk
set_option maxRecDepth 20000 in
theorem LW_law_958 {X : SX} {d : Nat} {st : List Value} {h : HH} {Q : Int32 → HH → Prop} {a0 a1 a2 : Value} {x : Int32}  (kk : E X d LW_law 959 [a0, a1, a2, .int x] (.int x :: st) h Q) : E X d LW_law 958 [a0, a1, a2, .int x] st h Q := Ev.iload_n (by decide +kernel : decode LW_law.2.1 958 = .ok (.iload_n 3, 1)) rfl rfl kk
set_option maxRecDepth 20000 in
theorem LW_law_959 {X : SX} {d : Nat} {L : List Value} {st : List Value} {h : HH} {Q : Int32 → HH → Prop}   (kk : E X d LW_law 960 L (.int 1 :: st) h Q) : E X d LW_law 959 L st h Q := Ev.iconst (by decide +kernel : decode LW_law.2.1 959 = .ok (.iconst 1, 1)) (by decide) kk
set_option maxRecDepth 20000 in
theorem LW_law_960 {X : SX} {d : Nat} {L : List Value} {st : List Value} {h : HH} {Q : Int32 → HH → Prop} {x z : Int32}  (kk : E X d LW_law 961 L (.int (x + z) :: st) h Q) : E X d LW_law 960 L (.int z :: .int x :: st) h Q := Ev.iadd (by decide +kernel : decode LW_law.2.1 960 = .ok (.iadd, 1)) kk
set_option maxRecDepth 20000 in
theorem LW_law_961 {X : SX} {d : Nat} {L : List Value} {st : List Value} {h : HH} {Q : Int32 → HH → Prop} {i : Int32} (hi : vp_in i X.1) (kk : E X d LW_law 962 L (.int (X.2 i.toNatClampNeg) :: st) h Q) : E X d LW_law 961 L (.int i :: .ref 1003 :: st) h Q := Ev.tScript (by decide +kernel : decode LW_law.2.1 961 = .ok (.iaload, 1)) hi kk
set_option maxRecDepth 20000 in
theorem LW_law_962 {X : SX} {d : Nat} {st : List Value} {h : HH} {Q : Int32 → HH → Prop} {a1 a2 a3 : Value}   (kk : E X d LW_law 963 [.ref 1003, a1, a2, a3] (.ref 1003 :: st) h Q) : E X d LW_law 962 [.ref 1003, a1, a2, a3] st h Q := Ev.aload_n (by decide +kernel : decode LW_law.2.1 962 = .ok (.aload_n 0, 1)) rfl rfl kk
set_option maxRecDepth 20000 in
theorem LW_law_963 {X : SX} {d : Nat} {st : List Value} {h : HH} {Q : Int32 → HH → Prop} {a0 a1 a2 : Value} {x : Int32}  (kk : E X d LW_law 964 [a0, a1, a2, .int x] (.int x :: st) h Q) : E X d LW_law 963 [a0, a1, a2, .int x] st h Q := Ev.iload_n (by decide +kernel : decode LW_law.2.1 963 = .ok (.iload_n 3, 1)) rfl rfl kk
set_option maxRecDepth 20000 in
theorem LW_law_964 {X : SX} {d : Nat} {L : List Value} {st : List Value} {h : HH} {Q : Int32 → HH → Prop}   (kk : E X d LW_law 965 L (.int 2 :: st) h Q) : E X d LW_law 964 L st h Q := Ev.iconst (by decide +kernel : decode LW_law.2.1 964 = .ok (.iconst 2, 1)) (by decide) kk
set_option maxRecDepth 20000 in
theorem LW_law_965 {X : SX} {d : Nat} {L : List Value} {st : List Value} {h : HH} {Q : Int32 → HH → Prop} {x z : Int32}  (kk : E X d LW_law 966 L (.int (x + z) :: st) h Q) : E X d LW_law 965 L (.int z :: .int x :: st) h Q := Ev.iadd (by decide +kernel : decode LW_law.2.1 965 = .ok (.iadd, 1)) kk
set_option maxRecDepth 20000 in
theorem LW_law_966 {X : SX} {d : Nat} {L : List Value} {st : List Value} {h : HH} {Q : Int32 → HH → Prop} {i : Int32} (hi : vp_in i X.1) (kk : E X d LW_law 967 L (.int (X.2 i.toNatClampNeg) :: st) h Q) : E X d LW_law 966 L (.int i :: .ref 1003 :: st) h Q := Ev.tScript (by decide +kernel : decode LW_law.2.1 966 = .ok (.iaload, 1)) hi kk
set_option maxRecDepth 20000 in
theorem LW_law_967 {X : SX} {d : Nat} {L : List Value} {st : List Value} {h : HH} {Q : Int32 → HH → Prop} {b0 : Int32} {b1 : Int32}   (hc : (st.map (fun v => v.category)).sum ≤ 8) (kk : E X d FC_lineTold 0 [.ref 0, .int b0, .int b1] [] h (fun x h' => E X (d + 1) LW_law 970 L (.int x :: st) h' Q)) : E X (d + 1) LW_law 967 L (.int b1 :: .int b0 :: .ref 0 :: st) h Q := E.callVi (n := 2) (ix := 99) (args := [.int b0, .int b1]) (by decide +kernel : decode LW_law.2.1 967 = .ok (.invokevirtual 99, 3)) FC_lineTold_ok rfl rfl rfl wd_665 wd_666 wd_667 rfl FC_lineTold_ds (Nat.le_of_ble_eq_true rfl) hc (by decide) kk
set_option maxRecDepth 20000 in
theorem LW_law_970 {X : SX} {d : Nat} {st : List Value} {h : HH} {Q : Int32 → HH → Prop} {a0 a1 a3 : Value}   (kk : E X d LW_law 971 [a0, a1, .ref 57, a3] (.ref 57 :: st) h Q) : E X d LW_law 970 [a0, a1, .ref 57, a3] st h Q := Ev.aload_n (by decide +kernel : decode LW_law.2.1 970 = .ok (.aload_n 2, 1)) rfl rfl kk
set_option maxRecDepth 20000 in
theorem LW_law_971 {X : SX} {d : Nat} {st : List Value} {h : HH} {Q : Int32 → HH → Prop} {a1 a2 a3 : Value}   (kk : E X d LW_law 972 [.ref 1003, a1, a2, a3] (.ref 1003 :: st) h Q) : E X d LW_law 971 [.ref 1003, a1, a2, a3] st h Q := Ev.aload_n (by decide +kernel : decode LW_law.2.1 971 = .ok (.aload_n 0, 1)) rfl rfl kk
set_option maxRecDepth 20000 in
theorem LW_law_972 {X : SX} {d : Nat} {st : List Value} {h : HH} {Q : Int32 → HH → Prop} {a0 a1 a2 : Value} {x : Int32}  (kk : E X d LW_law 973 [a0, a1, a2, .int x] (.int x :: st) h Q) : E X d LW_law 972 [a0, a1, a2, .int x] st h Q := Ev.iload_n (by decide +kernel : decode LW_law.2.1 972 = .ok (.iload_n 3, 1)) rfl rfl kk
set_option maxRecDepth 20000 in
theorem LW_law_973 {X : SX} {d : Nat} {L : List Value} {st : List Value} {h : HH} {Q : Int32 → HH → Prop}   (kk : E X d LW_law 974 L (.int 1 :: st) h Q) : E X d LW_law 973 L st h Q := Ev.iconst (by decide +kernel : decode LW_law.2.1 973 = .ok (.iconst 1, 1)) (by decide) kk
set_option maxRecDepth 20000 in
theorem LW_law_974 {X : SX} {d : Nat} {L : List Value} {st : List Value} {h : HH} {Q : Int32 → HH → Prop} {x z : Int32}  (kk : E X d LW_law 975 L (.int (x + z) :: st) h Q) : E X d LW_law 974 L (.int z :: .int x :: st) h Q := Ev.iadd (by decide +kernel : decode LW_law.2.1 974 = .ok (.iadd, 1)) kk
set_option maxRecDepth 20000 in
theorem LW_law_975 {X : SX} {d : Nat} {L : List Value} {st : List Value} {h : HH} {Q : Int32 → HH → Prop} {i : Int32} (hi : vp_in i X.1) (kk : E X d LW_law 976 L (.int (X.2 i.toNatClampNeg) :: st) h Q) : E X d LW_law 975 L (.int i :: .ref 1003 :: st) h Q := Ev.tScript (by decide +kernel : decode LW_law.2.1 975 = .ok (.iaload, 1)) hi kk
set_option maxRecDepth 20000 in
theorem LW_law_976 {X : SX} {d : Nat} {st : List Value} {h : HH} {Q : Int32 → HH → Prop} {a1 a2 a3 : Value}   (kk : E X d LW_law 977 [.ref 1003, a1, a2, a3] (.ref 1003 :: st) h Q) : E X d LW_law 976 [.ref 1003, a1, a2, a3] st h Q := Ev.aload_n (by decide +kernel : decode LW_law.2.1 976 = .ok (.aload_n 0, 1)) rfl rfl kk
set_option maxRecDepth 20000 in
theorem LW_law_977 {X : SX} {d : Nat} {st : List Value} {h : HH} {Q : Int32 → HH → Prop} {a0 a1 a2 : Value} {x : Int32}  (kk : E X d LW_law 978 [a0, a1, a2, .int x] (.int x :: st) h Q) : E X d LW_law 977 [a0, a1, a2, .int x] st h Q := Ev.iload_n (by decide +kernel : decode LW_law.2.1 977 = .ok (.iload_n 3, 1)) rfl rfl kk
set_option maxRecDepth 20000 in
theorem LW_law_978 {X : SX} {d : Nat} {L : List Value} {st : List Value} {h : HH} {Q : Int32 → HH → Prop}   (kk : E X d LW_law 979 L (.int 2 :: st) h Q) : E X d LW_law 978 L st h Q := Ev.iconst (by decide +kernel : decode LW_law.2.1 978 = .ok (.iconst 2, 1)) (by decide) kk
set_option maxRecDepth 20000 in
theorem LW_law_979 {X : SX} {d : Nat} {L : List Value} {st : List Value} {h : HH} {Q : Int32 → HH → Prop} {x z : Int32}  (kk : E X d LW_law 980 L (.int (x + z) :: st) h Q) : E X d LW_law 979 L (.int z :: .int x :: st) h Q := Ev.iadd (by decide +kernel : decode LW_law.2.1 979 = .ok (.iadd, 1)) kk
set_option maxRecDepth 20000 in
theorem LW_law_980 {X : SX} {d : Nat} {L : List Value} {st : List Value} {h : HH} {Q : Int32 → HH → Prop} {i : Int32} (hi : vp_in i X.1) (kk : E X d LW_law 981 L (.int (X.2 i.toNatClampNeg) :: st) h Q) : E X d LW_law 980 L (.int i :: .ref 1003 :: st) h Q := Ev.tScript (by decide +kernel : decode LW_law.2.1 980 = .ok (.iaload, 1)) hi kk
set_option maxRecDepth 20000 in
theorem LW_law_981 {X : SX} {d : Nat} {L : List Value} {st : List Value} {h : HH} {Q : Int32 → HH → Prop} {b0 : Int32} {b1 : Int32}   (hc : (st.map (fun v => v.category)).sum ≤ 8) (kk : E X d FM_lineTold 0 [.ref 57, .int b0, .int b1] [] h (fun x h' => E X (d + 1) LW_law 984 L (.int x :: st) h' Q)) : E X (d + 1) LW_law 981 L (.int b1 :: .int b0 :: .ref 57 :: st) h Q := E.callVi (n := 2) (ix := 102) (args := [.int b0, .int b1]) (by decide +kernel : decode LW_law.2.1 981 = .ok (.invokevirtual 102, 3)) FM_lineTold_ok rfl rfl rfl wd_1259 wd_1260 wd_1261 rfl FM_lineTold_ds (Nat.le_of_ble_eq_true rfl) hc (by decide) kk
set_option maxRecDepth 20000 in
theorem LW_law_984 {X : SX} {d : Nat} {L : List Value} {st : List Value} {h : HH} {Q : Int32 → HH → Prop} {x z : Int32}  (kt : x = z → E X d LW_law 1477 L st h Q) (kf : ¬ x = z → E X d LW_law 987 L st h Q) : E X d LW_law 984 L (.int z :: .int x :: st) h Q := Ev.icmp_eq (tgt := 1477) (by decide +kernel : decode LW_law.2.1 984 = .ok (.if_icmp .eq 493, 3)) (by decide) kt kf
set_option maxRecDepth 20000 in
theorem LW_law_987 {X : SX} {d : Nat} {L : List Value} {st : List Value} {h : HH} {Q : Int32 → HH → Prop}   (kk : E X d LW_law 988 L (.int 0 :: st) h Q) : E X d LW_law 987 L st h Q := Ev.iconst (by decide +kernel : decode LW_law.2.1 987 = .ok (.iconst 0, 1)) (by decide) kk
set_option maxRecDepth 20000 in
theorem LW_law_988 {X : SX} {d : Nat} {L : List Value} {h : HH} {Q : Int32 → HH → Prop} {x : Int32} (hb : narrow .boolean (.int x) = .int x) (hq : Q x h)  : E X d LW_law 988 L [.int x] h Q := Ev.ireturn (by decide +kernel : decode LW_law.2.1 988 = .ok (.ireturn, 1)) rfl hb ⟨rfl, hq⟩
set_option maxRecDepth 20000 in
theorem LW_law_989 {X : SX} {d : Nat} {st : List Value} {h : HH} {Q : Int32 → HH → Prop} {a0 a2 a3 : Value}   (kk : E X d LW_law 990 [a0, .ref 0, a2, a3] (.ref 0 :: st) h Q) : E X d LW_law 989 [a0, .ref 0, a2, a3] st h Q := Ev.aload_n (by decide +kernel : decode LW_law.2.1 989 = .ok (.aload_n 1, 1)) rfl rfl kk
set_option maxRecDepth 20000 in
theorem LW_law_990 {X : SX} {d : Nat} {st : List Value} {h : HH} {Q : Int32 → HH → Prop} {a1 a2 a3 : Value}   (kk : E X d LW_law 991 [.ref 1003, a1, a2, a3] (.ref 1003 :: st) h Q) : E X d LW_law 990 [.ref 1003, a1, a2, a3] st h Q := Ev.aload_n (by decide +kernel : decode LW_law.2.1 990 = .ok (.aload_n 0, 1)) rfl rfl kk
set_option maxRecDepth 20000 in
theorem LW_law_991 {X : SX} {d : Nat} {st : List Value} {h : HH} {Q : Int32 → HH → Prop} {a0 a1 a2 : Value} {x : Int32}  (kk : E X d LW_law 992 [a0, a1, a2, .int x] (.int x :: st) h Q) : E X d LW_law 991 [a0, a1, a2, .int x] st h Q := Ev.iload_n (by decide +kernel : decode LW_law.2.1 991 = .ok (.iload_n 3, 1)) rfl rfl kk
set_option maxRecDepth 20000 in
theorem LW_law_992 {X : SX} {d : Nat} {L : List Value} {st : List Value} {h : HH} {Q : Int32 → HH → Prop}   (kk : E X d LW_law 993 L (.int 1 :: st) h Q) : E X d LW_law 992 L st h Q := Ev.iconst (by decide +kernel : decode LW_law.2.1 992 = .ok (.iconst 1, 1)) (by decide) kk
set_option maxRecDepth 20000 in
theorem LW_law_993 {X : SX} {d : Nat} {L : List Value} {st : List Value} {h : HH} {Q : Int32 → HH → Prop} {x z : Int32}  (kk : E X d LW_law 994 L (.int (x + z) :: st) h Q) : E X d LW_law 993 L (.int z :: .int x :: st) h Q := Ev.iadd (by decide +kernel : decode LW_law.2.1 993 = .ok (.iadd, 1)) kk
set_option maxRecDepth 20000 in
theorem LW_law_994 {X : SX} {d : Nat} {L : List Value} {st : List Value} {h : HH} {Q : Int32 → HH → Prop} {i : Int32} (hi : vp_in i X.1) (kk : E X d LW_law 995 L (.int (X.2 i.toNatClampNeg) :: st) h Q) : E X d LW_law 994 L (.int i :: .ref 1003 :: st) h Q := Ev.tScript (by decide +kernel : decode LW_law.2.1 994 = .ok (.iaload, 1)) hi kk
set_option maxRecDepth 20000 in
theorem LW_law_995 {X : SX} {d : Nat} {st : List Value} {h : HH} {Q : Int32 → HH → Prop} {a1 a2 a3 : Value}   (kk : E X d LW_law 996 [.ref 1003, a1, a2, a3] (.ref 1003 :: st) h Q) : E X d LW_law 995 [.ref 1003, a1, a2, a3] st h Q := Ev.aload_n (by decide +kernel : decode LW_law.2.1 995 = .ok (.aload_n 0, 1)) rfl rfl kk
set_option maxRecDepth 20000 in
theorem LW_law_996 {X : SX} {d : Nat} {st : List Value} {h : HH} {Q : Int32 → HH → Prop} {a0 a1 a2 : Value} {x : Int32}  (kk : E X d LW_law 997 [a0, a1, a2, .int x] (.int x :: st) h Q) : E X d LW_law 996 [a0, a1, a2, .int x] st h Q := Ev.iload_n (by decide +kernel : decode LW_law.2.1 996 = .ok (.iload_n 3, 1)) rfl rfl kk
set_option maxRecDepth 20000 in
theorem LW_law_997 {X : SX} {d : Nat} {L : List Value} {st : List Value} {h : HH} {Q : Int32 → HH → Prop}   (kk : E X d LW_law 998 L (.int 2 :: st) h Q) : E X d LW_law 997 L st h Q := Ev.iconst (by decide +kernel : decode LW_law.2.1 997 = .ok (.iconst 2, 1)) (by decide) kk
set_option maxRecDepth 20000 in
theorem LW_law_998 {X : SX} {d : Nat} {L : List Value} {st : List Value} {h : HH} {Q : Int32 → HH → Prop} {x z : Int32}  (kk : E X d LW_law 999 L (.int (x + z) :: st) h Q) : E X d LW_law 998 L (.int z :: .int x :: st) h Q := Ev.iadd (by decide +kernel : decode LW_law.2.1 998 = .ok (.iadd, 1)) kk
set_option maxRecDepth 20000 in
theorem LW_law_999 {X : SX} {d : Nat} {L : List Value} {st : List Value} {h : HH} {Q : Int32 → HH → Prop} {i : Int32} (hi : vp_in i X.1) (kk : E X d LW_law 1000 L (.int (X.2 i.toNatClampNeg) :: st) h Q) : E X d LW_law 999 L (.int i :: .ref 1003 :: st) h Q := Ev.tScript (by decide +kernel : decode LW_law.2.1 999 = .ok (.iaload, 1)) hi kk
set_option maxRecDepth 20000 in
theorem LW_law_1000 {X : SX} {d : Nat} {st : List Value} {h : HH} {Q : Int32 → HH → Prop} {a1 a2 a3 : Value}   (kk : E X d LW_law 1001 [.ref 1003, a1, a2, a3] (.ref 1003 :: st) h Q) : E X d LW_law 1000 [.ref 1003, a1, a2, a3] st h Q := Ev.aload_n (by decide +kernel : decode LW_law.2.1 1000 = .ok (.aload_n 0, 1)) rfl rfl kk
set_option maxRecDepth 20000 in
theorem LW_law_1001 {X : SX} {d : Nat} {st : List Value} {h : HH} {Q : Int32 → HH → Prop} {a0 a1 a2 : Value} {x : Int32}  (kk : E X d LW_law 1002 [a0, a1, a2, .int x] (.int x :: st) h Q) : E X d LW_law 1001 [a0, a1, a2, .int x] st h Q := Ev.iload_n (by decide +kernel : decode LW_law.2.1 1001 = .ok (.iload_n 3, 1)) rfl rfl kk
set_option maxRecDepth 20000 in
theorem LW_law_1002 {X : SX} {d : Nat} {L : List Value} {st : List Value} {h : HH} {Q : Int32 → HH → Prop}   (kk : E X d LW_law 1003 L (.int 3 :: st) h Q) : E X d LW_law 1002 L st h Q := Ev.iconst (by decide +kernel : decode LW_law.2.1 1002 = .ok (.iconst 3, 1)) (by decide) kk
set_option maxRecDepth 20000 in
theorem LW_law_1003 {X : SX} {d : Nat} {L : List Value} {st : List Value} {h : HH} {Q : Int32 → HH → Prop} {x z : Int32}  (kk : E X d LW_law 1004 L (.int (x + z) :: st) h Q) : E X d LW_law 1003 L (.int z :: .int x :: st) h Q := Ev.iadd (by decide +kernel : decode LW_law.2.1 1003 = .ok (.iadd, 1)) kk
set_option maxRecDepth 20000 in
theorem LW_law_1004 {X : SX} {d : Nat} {L : List Value} {st : List Value} {h : HH} {Q : Int32 → HH → Prop} {i : Int32} (hi : vp_in i X.1) (kk : E X d LW_law 1005 L (.int (X.2 i.toNatClampNeg) :: st) h Q) : E X d LW_law 1004 L (.int i :: .ref 1003 :: st) h Q := Ev.tScript (by decide +kernel : decode LW_law.2.1 1004 = .ok (.iaload, 1)) hi kk
set_option maxRecDepth 20000 in
theorem LW_law_1005 {X : SX} {d : Nat} {L : List Value} {st : List Value} {h : HH} {Q : Int32 → HH → Prop} {b0 : Int32} {b1 : Int32} {b2 : Int32}   (hc : (st.map (fun v => v.category)).sum ≤ 8) (kk : E X d FC_load 0 [.ref 0, .int b0, .int b1, .int b2, U0] [] h (fun x h' => E X (d + 1) LW_law 1008 L (.int x :: st) h' Q)) : E X (d + 1) LW_law 1005 L (.int b2 :: .int b1 :: .int b0 :: .ref 0 :: st) h Q := E.callVi (n := 3) (ix := 103) (args := [.int b0, .int b1, .int b2]) (by decide +kernel : decode LW_law.2.1 1005 = .ok (.invokevirtual 103, 3)) FC_load_ok rfl rfl rfl wd_669 wd_670 wd_671 rfl FC_load_ds (Nat.le_of_ble_eq_true rfl) hc (by decide) kk
set_option maxRecDepth 20000 in
theorem LW_law_1008 {X : SX} {d : Nat} {st : List Value} {h : HH} {Q : Int32 → HH → Prop} {a0 a1 a3 : Value}   (kk : E X d LW_law 1009 [a0, a1, .ref 57, a3] (.ref 57 :: st) h Q) : E X d LW_law 1008 [a0, a1, .ref 57, a3] st h Q := Ev.aload_n (by decide +kernel : decode LW_law.2.1 1008 = .ok (.aload_n 2, 1)) rfl rfl kk
set_option maxRecDepth 20000 in
theorem LW_law_1009 {X : SX} {d : Nat} {st : List Value} {h : HH} {Q : Int32 → HH → Prop} {a1 a2 a3 : Value}   (kk : E X d LW_law 1010 [.ref 1003, a1, a2, a3] (.ref 1003 :: st) h Q) : E X d LW_law 1009 [.ref 1003, a1, a2, a3] st h Q := Ev.aload_n (by decide +kernel : decode LW_law.2.1 1009 = .ok (.aload_n 0, 1)) rfl rfl kk
set_option maxRecDepth 20000 in
theorem LW_law_1010 {X : SX} {d : Nat} {st : List Value} {h : HH} {Q : Int32 → HH → Prop} {a0 a1 a2 : Value} {x : Int32}  (kk : E X d LW_law 1011 [a0, a1, a2, .int x] (.int x :: st) h Q) : E X d LW_law 1010 [a0, a1, a2, .int x] st h Q := Ev.iload_n (by decide +kernel : decode LW_law.2.1 1010 = .ok (.iload_n 3, 1)) rfl rfl kk
set_option maxRecDepth 20000 in
theorem LW_law_1011 {X : SX} {d : Nat} {L : List Value} {st : List Value} {h : HH} {Q : Int32 → HH → Prop}   (kk : E X d LW_law 1012 L (.int 1 :: st) h Q) : E X d LW_law 1011 L st h Q := Ev.iconst (by decide +kernel : decode LW_law.2.1 1011 = .ok (.iconst 1, 1)) (by decide) kk
set_option maxRecDepth 20000 in
theorem LW_law_1012 {X : SX} {d : Nat} {L : List Value} {st : List Value} {h : HH} {Q : Int32 → HH → Prop} {x z : Int32}  (kk : E X d LW_law 1013 L (.int (x + z) :: st) h Q) : E X d LW_law 1012 L (.int z :: .int x :: st) h Q := Ev.iadd (by decide +kernel : decode LW_law.2.1 1012 = .ok (.iadd, 1)) kk
set_option maxRecDepth 20000 in
theorem LW_law_1013 {X : SX} {d : Nat} {L : List Value} {st : List Value} {h : HH} {Q : Int32 → HH → Prop} {i : Int32} (hi : vp_in i X.1) (kk : E X d LW_law 1014 L (.int (X.2 i.toNatClampNeg) :: st) h Q) : E X d LW_law 1013 L (.int i :: .ref 1003 :: st) h Q := Ev.tScript (by decide +kernel : decode LW_law.2.1 1013 = .ok (.iaload, 1)) hi kk
set_option maxRecDepth 20000 in
theorem LW_law_1014 {X : SX} {d : Nat} {st : List Value} {h : HH} {Q : Int32 → HH → Prop} {a1 a2 a3 : Value}   (kk : E X d LW_law 1015 [.ref 1003, a1, a2, a3] (.ref 1003 :: st) h Q) : E X d LW_law 1014 [.ref 1003, a1, a2, a3] st h Q := Ev.aload_n (by decide +kernel : decode LW_law.2.1 1014 = .ok (.aload_n 0, 1)) rfl rfl kk
set_option maxRecDepth 20000 in
theorem LW_law_1015 {X : SX} {d : Nat} {st : List Value} {h : HH} {Q : Int32 → HH → Prop} {a0 a1 a2 : Value} {x : Int32}  (kk : E X d LW_law 1016 [a0, a1, a2, .int x] (.int x :: st) h Q) : E X d LW_law 1015 [a0, a1, a2, .int x] st h Q := Ev.iload_n (by decide +kernel : decode LW_law.2.1 1015 = .ok (.iload_n 3, 1)) rfl rfl kk
set_option maxRecDepth 20000 in
theorem LW_law_1016 {X : SX} {d : Nat} {L : List Value} {st : List Value} {h : HH} {Q : Int32 → HH → Prop}   (kk : E X d LW_law 1017 L (.int 2 :: st) h Q) : E X d LW_law 1016 L st h Q := Ev.iconst (by decide +kernel : decode LW_law.2.1 1016 = .ok (.iconst 2, 1)) (by decide) kk
set_option maxRecDepth 20000 in
theorem LW_law_1017 {X : SX} {d : Nat} {L : List Value} {st : List Value} {h : HH} {Q : Int32 → HH → Prop} {x z : Int32}  (kk : E X d LW_law 1018 L (.int (x + z) :: st) h Q) : E X d LW_law 1017 L (.int z :: .int x :: st) h Q := Ev.iadd (by decide +kernel : decode LW_law.2.1 1017 = .ok (.iadd, 1)) kk
set_option maxRecDepth 20000 in
theorem LW_law_1018 {X : SX} {d : Nat} {L : List Value} {st : List Value} {h : HH} {Q : Int32 → HH → Prop} {i : Int32} (hi : vp_in i X.1) (kk : E X d LW_law 1019 L (.int (X.2 i.toNatClampNeg) :: st) h Q) : E X d LW_law 1018 L (.int i :: .ref 1003 :: st) h Q := Ev.tScript (by decide +kernel : decode LW_law.2.1 1018 = .ok (.iaload, 1)) hi kk
set_option maxRecDepth 20000 in
theorem LW_law_1019 {X : SX} {d : Nat} {st : List Value} {h : HH} {Q : Int32 → HH → Prop} {a1 a2 a3 : Value}   (kk : E X d LW_law 1020 [.ref 1003, a1, a2, a3] (.ref 1003 :: st) h Q) : E X d LW_law 1019 [.ref 1003, a1, a2, a3] st h Q := Ev.aload_n (by decide +kernel : decode LW_law.2.1 1019 = .ok (.aload_n 0, 1)) rfl rfl kk
set_option maxRecDepth 20000 in
theorem LW_law_1020 {X : SX} {d : Nat} {st : List Value} {h : HH} {Q : Int32 → HH → Prop} {a0 a1 a2 : Value} {x : Int32}  (kk : E X d LW_law 1021 [a0, a1, a2, .int x] (.int x :: st) h Q) : E X d LW_law 1020 [a0, a1, a2, .int x] st h Q := Ev.iload_n (by decide +kernel : decode LW_law.2.1 1020 = .ok (.iload_n 3, 1)) rfl rfl kk
set_option maxRecDepth 20000 in
theorem LW_law_1021 {X : SX} {d : Nat} {L : List Value} {st : List Value} {h : HH} {Q : Int32 → HH → Prop}   (kk : E X d LW_law 1022 L (.int 3 :: st) h Q) : E X d LW_law 1021 L st h Q := Ev.iconst (by decide +kernel : decode LW_law.2.1 1021 = .ok (.iconst 3, 1)) (by decide) kk
set_option maxRecDepth 20000 in
theorem LW_law_1022 {X : SX} {d : Nat} {L : List Value} {st : List Value} {h : HH} {Q : Int32 → HH → Prop} {x z : Int32}  (kk : E X d LW_law 1023 L (.int (x + z) :: st) h Q) : E X d LW_law 1022 L (.int z :: .int x :: st) h Q := Ev.iadd (by decide +kernel : decode LW_law.2.1 1022 = .ok (.iadd, 1)) kk
set_option maxRecDepth 20000 in
theorem LW_law_1023 {X : SX} {d : Nat} {L : List Value} {st : List Value} {h : HH} {Q : Int32 → HH → Prop} {i : Int32} (hi : vp_in i X.1) (kk : E X d LW_law 1024 L (.int (X.2 i.toNatClampNeg) :: st) h Q) : E X d LW_law 1023 L (.int i :: .ref 1003 :: st) h Q := Ev.tScript (by decide +kernel : decode LW_law.2.1 1023 = .ok (.iaload, 1)) hi kk
set_option maxRecDepth 20000 in
theorem LW_law_1024 {X : SX} {d : Nat} {L : List Value} {st : List Value} {h : HH} {Q : Int32 → HH → Prop} {b0 : Int32} {b1 : Int32} {b2 : Int32}   (hc : (st.map (fun v => v.category)).sum ≤ 8) (kk : E X d FM_load 0 [.ref 57, .int b0, .int b1, .int b2, U0] [] h (fun x h' => E X (d + 1) LW_law 1027 L (.int x :: st) h' Q)) : E X (d + 1) LW_law 1024 L (.int b2 :: .int b1 :: .int b0 :: .ref 57 :: st) h Q := E.callVi (n := 3) (ix := 106) (args := [.int b0, .int b1, .int b2]) (by decide +kernel : decode LW_law.2.1 1024 = .ok (.invokevirtual 106, 3)) FM_load_ok rfl rfl rfl wd_1175 wd_1176 wd_1177 rfl FM_load_ds (Nat.le_of_ble_eq_true rfl) hc (by decide) kk
set_option maxRecDepth 20000 in
theorem LW_law_1027 {X : SX} {d : Nat} {L : List Value} {st : List Value} {h : HH} {Q : Int32 → HH → Prop} {x z : Int32}  (kt : x = z → E X d LW_law 1477 L st h Q) (kf : ¬ x = z → E X d LW_law 1030 L st h Q) : E X d LW_law 1027 L (.int z :: .int x :: st) h Q := Ev.icmp_eq (tgt := 1477) (by decide +kernel : decode LW_law.2.1 1027 = .ok (.if_icmp .eq 450, 3)) (by decide) kt kf
set_option maxRecDepth 20000 in
theorem LW_law_1030 {X : SX} {d : Nat} {L : List Value} {st : List Value} {h : HH} {Q : Int32 → HH → Prop}   (kk : E X d LW_law 1031 L (.int 0 :: st) h Q) : E X d LW_law 1030 L st h Q := Ev.iconst (by decide +kernel : decode LW_law.2.1 1030 = .ok (.iconst 0, 1)) (by decide) kk
set_option maxRecDepth 20000 in
theorem LW_law_1031 {X : SX} {d : Nat} {L : List Value} {h : HH} {Q : Int32 → HH → Prop} {x : Int32} (hb : narrow .boolean (.int x) = .int x) (hq : Q x h)  : E X d LW_law 1031 L [.int x] h Q := Ev.ireturn (by decide +kernel : decode LW_law.2.1 1031 = .ok (.ireturn, 1)) rfl hb ⟨rfl, hq⟩
set_option maxRecDepth 20000 in
theorem LW_law_1032 {X : SX} {d : Nat} {st : List Value} {h : HH} {Q : Int32 → HH → Prop} {a0 a2 a3 : Value}   (kk : E X d LW_law 1033 [a0, .ref 0, a2, a3] (.ref 0 :: st) h Q) : E X d LW_law 1032 [a0, .ref 0, a2, a3] st h Q := Ev.aload_n (by decide +kernel : decode LW_law.2.1 1032 = .ok (.aload_n 1, 1)) rfl rfl kk
set_option maxRecDepth 20000 in
theorem LW_law_1033 {X : SX} {d : Nat} {st : List Value} {h : HH} {Q : Int32 → HH → Prop} {a1 a2 a3 : Value}   (kk : E X d LW_law 1034 [.ref 1003, a1, a2, a3] (.ref 1003 :: st) h Q) : E X d LW_law 1033 [.ref 1003, a1, a2, a3] st h Q := Ev.aload_n (by decide +kernel : decode LW_law.2.1 1033 = .ok (.aload_n 0, 1)) rfl rfl kk
set_option maxRecDepth 20000 in
theorem LW_law_1034 {X : SX} {d : Nat} {st : List Value} {h : HH} {Q : Int32 → HH → Prop} {a0 a1 a2 : Value} {x : Int32}  (kk : E X d LW_law 1035 [a0, a1, a2, .int x] (.int x :: st) h Q) : E X d LW_law 1034 [a0, a1, a2, .int x] st h Q := Ev.iload_n (by decide +kernel : decode LW_law.2.1 1034 = .ok (.iload_n 3, 1)) rfl rfl kk
set_option maxRecDepth 20000 in
theorem LW_law_1035 {X : SX} {d : Nat} {L : List Value} {st : List Value} {h : HH} {Q : Int32 → HH → Prop}   (kk : E X d LW_law 1036 L (.int 1 :: st) h Q) : E X d LW_law 1035 L st h Q := Ev.iconst (by decide +kernel : decode LW_law.2.1 1035 = .ok (.iconst 1, 1)) (by decide) kk
set_option maxRecDepth 20000 in
theorem LW_law_1036 {X : SX} {d : Nat} {L : List Value} {st : List Value} {h : HH} {Q : Int32 → HH → Prop} {x z : Int32}  (kk : E X d LW_law 1037 L (.int (x + z) :: st) h Q) : E X d LW_law 1036 L (.int z :: .int x :: st) h Q := Ev.iadd (by decide +kernel : decode LW_law.2.1 1036 = .ok (.iadd, 1)) kk
set_option maxRecDepth 20000 in
theorem LW_law_1037 {X : SX} {d : Nat} {L : List Value} {st : List Value} {h : HH} {Q : Int32 → HH → Prop} {i : Int32} (hi : vp_in i X.1) (kk : E X d LW_law 1038 L (.int (X.2 i.toNatClampNeg) :: st) h Q) : E X d LW_law 1037 L (.int i :: .ref 1003 :: st) h Q := Ev.tScript (by decide +kernel : decode LW_law.2.1 1037 = .ok (.iaload, 1)) hi kk
set_option maxRecDepth 20000 in
theorem LW_law_1038 {X : SX} {d : Nat} {st : List Value} {h : HH} {Q : Int32 → HH → Prop} {a1 a2 a3 : Value}   (kk : E X d LW_law 1039 [.ref 1003, a1, a2, a3] (.ref 1003 :: st) h Q) : E X d LW_law 1038 [.ref 1003, a1, a2, a3] st h Q := Ev.aload_n (by decide +kernel : decode LW_law.2.1 1038 = .ok (.aload_n 0, 1)) rfl rfl kk
set_option maxRecDepth 20000 in
theorem LW_law_1039 {X : SX} {d : Nat} {st : List Value} {h : HH} {Q : Int32 → HH → Prop} {a0 a1 a2 : Value} {x : Int32}  (kk : E X d LW_law 1040 [a0, a1, a2, .int x] (.int x :: st) h Q) : E X d LW_law 1039 [a0, a1, a2, .int x] st h Q := Ev.iload_n (by decide +kernel : decode LW_law.2.1 1039 = .ok (.iload_n 3, 1)) rfl rfl kk
set_option maxRecDepth 20000 in
theorem LW_law_1040 {X : SX} {d : Nat} {L : List Value} {st : List Value} {h : HH} {Q : Int32 → HH → Prop}   (kk : E X d LW_law 1041 L (.int 2 :: st) h Q) : E X d LW_law 1040 L st h Q := Ev.iconst (by decide +kernel : decode LW_law.2.1 1040 = .ok (.iconst 2, 1)) (by decide) kk
set_option maxRecDepth 20000 in
theorem LW_law_1041 {X : SX} {d : Nat} {L : List Value} {st : List Value} {h : HH} {Q : Int32 → HH → Prop} {x z : Int32}  (kk : E X d LW_law 1042 L (.int (x + z) :: st) h Q) : E X d LW_law 1041 L (.int z :: .int x :: st) h Q := Ev.iadd (by decide +kernel : decode LW_law.2.1 1041 = .ok (.iadd, 1)) kk
set_option maxRecDepth 20000 in
theorem LW_law_1042 {X : SX} {d : Nat} {L : List Value} {st : List Value} {h : HH} {Q : Int32 → HH → Prop} {i : Int32} (hi : vp_in i X.1) (kk : E X d LW_law 1043 L (.int (X.2 i.toNatClampNeg) :: st) h Q) : E X d LW_law 1042 L (.int i :: .ref 1003 :: st) h Q := Ev.tScript (by decide +kernel : decode LW_law.2.1 1042 = .ok (.iaload, 1)) hi kk
set_option maxRecDepth 20000 in
theorem LW_law_1043 {X : SX} {d : Nat} {st : List Value} {h : HH} {Q : Int32 → HH → Prop} {a1 a2 a3 : Value}   (kk : E X d LW_law 1044 [.ref 1003, a1, a2, a3] (.ref 1003 :: st) h Q) : E X d LW_law 1043 [.ref 1003, a1, a2, a3] st h Q := Ev.aload_n (by decide +kernel : decode LW_law.2.1 1043 = .ok (.aload_n 0, 1)) rfl rfl kk
set_option maxRecDepth 20000 in
theorem LW_law_1044 {X : SX} {d : Nat} {st : List Value} {h : HH} {Q : Int32 → HH → Prop} {a0 a1 a2 : Value} {x : Int32}  (kk : E X d LW_law 1045 [a0, a1, a2, .int x] (.int x :: st) h Q) : E X d LW_law 1044 [a0, a1, a2, .int x] st h Q := Ev.iload_n (by decide +kernel : decode LW_law.2.1 1044 = .ok (.iload_n 3, 1)) rfl rfl kk
set_option maxRecDepth 20000 in
theorem LW_law_1045 {X : SX} {d : Nat} {L : List Value} {st : List Value} {h : HH} {Q : Int32 → HH → Prop}   (kk : E X d LW_law 1046 L (.int 3 :: st) h Q) : E X d LW_law 1045 L st h Q := Ev.iconst (by decide +kernel : decode LW_law.2.1 1045 = .ok (.iconst 3, 1)) (by decide) kk
set_option maxRecDepth 20000 in
theorem LW_law_1046 {X : SX} {d : Nat} {L : List Value} {st : List Value} {h : HH} {Q : Int32 → HH → Prop} {x z : Int32}  (kk : E X d LW_law 1047 L (.int (x + z) :: st) h Q) : E X d LW_law 1046 L (.int z :: .int x :: st) h Q := Ev.iadd (by decide +kernel : decode LW_law.2.1 1046 = .ok (.iadd, 1)) kk
set_option maxRecDepth 20000 in
theorem LW_law_1047 {X : SX} {d : Nat} {L : List Value} {st : List Value} {h : HH} {Q : Int32 → HH → Prop} {i : Int32} (hi : vp_in i X.1) (kk : E X d LW_law 1048 L (.int (X.2 i.toNatClampNeg) :: st) h Q) : E X d LW_law 1047 L (.int i :: .ref 1003 :: st) h Q := Ev.tScript (by decide +kernel : decode LW_law.2.1 1047 = .ok (.iaload, 1)) hi kk
set_option maxRecDepth 20000 in
theorem LW_law_1048 {X : SX} {d : Nat} {st : List Value} {h : HH} {Q : Int32 → HH → Prop} {a1 a2 a3 : Value}   (kk : E X d LW_law 1049 [.ref 1003, a1, a2, a3] (.ref 1003 :: st) h Q) : E X d LW_law 1048 [.ref 1003, a1, a2, a3] st h Q := Ev.aload_n (by decide +kernel : decode LW_law.2.1 1048 = .ok (.aload_n 0, 1)) rfl rfl kk
set_option maxRecDepth 20000 in
theorem LW_law_1049 {X : SX} {d : Nat} {st : List Value} {h : HH} {Q : Int32 → HH → Prop} {a0 a1 a2 : Value} {x : Int32}  (kk : E X d LW_law 1050 [a0, a1, a2, .int x] (.int x :: st) h Q) : E X d LW_law 1049 [a0, a1, a2, .int x] st h Q := Ev.iload_n (by decide +kernel : decode LW_law.2.1 1049 = .ok (.iload_n 3, 1)) rfl rfl kk
set_option maxRecDepth 20000 in
theorem LW_law_1050 {X : SX} {d : Nat} {L : List Value} {st : List Value} {h : HH} {Q : Int32 → HH → Prop}   (kk : E X d LW_law 1051 L (.int 4 :: st) h Q) : E X d LW_law 1050 L st h Q := Ev.iconst (by decide +kernel : decode LW_law.2.1 1050 = .ok (.iconst 4, 1)) (by decide) kk
set_option maxRecDepth 20000 in
theorem LW_law_1051 {X : SX} {d : Nat} {L : List Value} {st : List Value} {h : HH} {Q : Int32 → HH → Prop} {x z : Int32}  (kk : E X d LW_law 1052 L (.int (x + z) :: st) h Q) : E X d LW_law 1051 L (.int z :: .int x :: st) h Q := Ev.iadd (by decide +kernel : decode LW_law.2.1 1051 = .ok (.iadd, 1)) kk
set_option maxRecDepth 20000 in
theorem LW_law_1052 {X : SX} {d : Nat} {L : List Value} {st : List Value} {h : HH} {Q : Int32 → HH → Prop} {i : Int32} (hi : vp_in i X.1) (kk : E X d LW_law 1053 L (.int (X.2 i.toNatClampNeg) :: st) h Q) : E X d LW_law 1052 L (.int i :: .ref 1003 :: st) h Q := Ev.tScript (by decide +kernel : decode LW_law.2.1 1052 = .ok (.iaload, 1)) hi kk
set_option maxRecDepth 20000 in
theorem LW_law_1053 {X : SX} {d : Nat} {L : List Value} {st : List Value} {h : HH} {Q : Int32 → HH → Prop} {b0 : Int32} {b1 : Int32} {b2 : Int32} {b3 : Int32}   (hc : (st.map (fun v => v.category)).sum ≤ 8) (kk : E X d FC_loaded 0 [.ref 0, .int b0, .int b1, .int b2, .int b3, U0] [] h (fun x h' => E X (d + 1) LW_law 1056 L (.int x :: st) h' Q)) : E X (d + 1) LW_law 1053 L (.int b3 :: .int b2 :: .int b1 :: .int b0 :: .ref 0 :: st) h Q := E.callVi (n := 4) (ix := 107) (args := [.int b0, .int b1, .int b2, .int b3]) (by decide +kernel : decode LW_law.2.1 1053 = .ok (.invokevirtual 107, 3)) FC_loaded_ok rfl rfl rfl wd_673 wd_674 wd_675 rfl FC_loaded_ds (Nat.le_of_ble_eq_true rfl) hc (by decide) kk
set_option maxRecDepth 20000 in
theorem LW_law_1056 {X : SX} {d : Nat} {st : List Value} {h : HH} {Q : Int32 → HH → Prop} {a0 a1 a3 : Value}   (kk : E X d LW_law 1057 [a0, a1, .ref 57, a3] (.ref 57 :: st) h Q) : E X d LW_law 1056 [a0, a1, .ref 57, a3] st h Q := Ev.aload_n (by decide +kernel : decode LW_law.2.1 1056 = .ok (.aload_n 2, 1)) rfl rfl kk
set_option maxRecDepth 20000 in
theorem LW_law_1057 {X : SX} {d : Nat} {st : List Value} {h : HH} {Q : Int32 → HH → Prop} {a1 a2 a3 : Value}   (kk : E X d LW_law 1058 [.ref 1003, a1, a2, a3] (.ref 1003 :: st) h Q) : E X d LW_law 1057 [.ref 1003, a1, a2, a3] st h Q := Ev.aload_n (by decide +kernel : decode LW_law.2.1 1057 = .ok (.aload_n 0, 1)) rfl rfl kk
set_option maxRecDepth 20000 in
theorem LW_law_1058 {X : SX} {d : Nat} {st : List Value} {h : HH} {Q : Int32 → HH → Prop} {a0 a1 a2 : Value} {x : Int32}  (kk : E X d LW_law 1059 [a0, a1, a2, .int x] (.int x :: st) h Q) : E X d LW_law 1058 [a0, a1, a2, .int x] st h Q := Ev.iload_n (by decide +kernel : decode LW_law.2.1 1058 = .ok (.iload_n 3, 1)) rfl rfl kk
set_option maxRecDepth 20000 in
theorem LW_law_1059 {X : SX} {d : Nat} {L : List Value} {st : List Value} {h : HH} {Q : Int32 → HH → Prop}   (kk : E X d LW_law 1060 L (.int 1 :: st) h Q) : E X d LW_law 1059 L st h Q := Ev.iconst (by decide +kernel : decode LW_law.2.1 1059 = .ok (.iconst 1, 1)) (by decide) kk
set_option maxRecDepth 20000 in
theorem LW_law_1060 {X : SX} {d : Nat} {L : List Value} {st : List Value} {h : HH} {Q : Int32 → HH → Prop} {x z : Int32}  (kk : E X d LW_law 1061 L (.int (x + z) :: st) h Q) : E X d LW_law 1060 L (.int z :: .int x :: st) h Q := Ev.iadd (by decide +kernel : decode LW_law.2.1 1060 = .ok (.iadd, 1)) kk
set_option maxRecDepth 20000 in
theorem LW_law_1061 {X : SX} {d : Nat} {L : List Value} {st : List Value} {h : HH} {Q : Int32 → HH → Prop} {i : Int32} (hi : vp_in i X.1) (kk : E X d LW_law 1062 L (.int (X.2 i.toNatClampNeg) :: st) h Q) : E X d LW_law 1061 L (.int i :: .ref 1003 :: st) h Q := Ev.tScript (by decide +kernel : decode LW_law.2.1 1061 = .ok (.iaload, 1)) hi kk
set_option maxRecDepth 20000 in
theorem LW_law_1062 {X : SX} {d : Nat} {st : List Value} {h : HH} {Q : Int32 → HH → Prop} {a1 a2 a3 : Value}   (kk : E X d LW_law 1063 [.ref 1003, a1, a2, a3] (.ref 1003 :: st) h Q) : E X d LW_law 1062 [.ref 1003, a1, a2, a3] st h Q := Ev.aload_n (by decide +kernel : decode LW_law.2.1 1062 = .ok (.aload_n 0, 1)) rfl rfl kk
set_option maxRecDepth 20000 in
theorem LW_law_1063 {X : SX} {d : Nat} {st : List Value} {h : HH} {Q : Int32 → HH → Prop} {a0 a1 a2 : Value} {x : Int32}  (kk : E X d LW_law 1064 [a0, a1, a2, .int x] (.int x :: st) h Q) : E X d LW_law 1063 [a0, a1, a2, .int x] st h Q := Ev.iload_n (by decide +kernel : decode LW_law.2.1 1063 = .ok (.iload_n 3, 1)) rfl rfl kk
set_option maxRecDepth 20000 in
theorem LW_law_1064 {X : SX} {d : Nat} {L : List Value} {st : List Value} {h : HH} {Q : Int32 → HH → Prop}   (kk : E X d LW_law 1065 L (.int 2 :: st) h Q) : E X d LW_law 1064 L st h Q := Ev.iconst (by decide +kernel : decode LW_law.2.1 1064 = .ok (.iconst 2, 1)) (by decide) kk
set_option maxRecDepth 20000 in
theorem LW_law_1065 {X : SX} {d : Nat} {L : List Value} {st : List Value} {h : HH} {Q : Int32 → HH → Prop} {x z : Int32}  (kk : E X d LW_law 1066 L (.int (x + z) :: st) h Q) : E X d LW_law 1065 L (.int z :: .int x :: st) h Q := Ev.iadd (by decide +kernel : decode LW_law.2.1 1065 = .ok (.iadd, 1)) kk
set_option maxRecDepth 20000 in
theorem LW_law_1066 {X : SX} {d : Nat} {L : List Value} {st : List Value} {h : HH} {Q : Int32 → HH → Prop} {i : Int32} (hi : vp_in i X.1) (kk : E X d LW_law 1067 L (.int (X.2 i.toNatClampNeg) :: st) h Q) : E X d LW_law 1066 L (.int i :: .ref 1003 :: st) h Q := Ev.tScript (by decide +kernel : decode LW_law.2.1 1066 = .ok (.iaload, 1)) hi kk
set_option maxRecDepth 20000 in
theorem LW_law_1067 {X : SX} {d : Nat} {st : List Value} {h : HH} {Q : Int32 → HH → Prop} {a1 a2 a3 : Value}   (kk : E X d LW_law 1068 [.ref 1003, a1, a2, a3] (.ref 1003 :: st) h Q) : E X d LW_law 1067 [.ref 1003, a1, a2, a3] st h Q := Ev.aload_n (by decide +kernel : decode LW_law.2.1 1067 = .ok (.aload_n 0, 1)) rfl rfl kk
set_option maxRecDepth 20000 in
theorem LW_law_1068 {X : SX} {d : Nat} {st : List Value} {h : HH} {Q : Int32 → HH → Prop} {a0 a1 a2 : Value} {x : Int32}  (kk : E X d LW_law 1069 [a0, a1, a2, .int x] (.int x :: st) h Q) : E X d LW_law 1068 [a0, a1, a2, .int x] st h Q := Ev.iload_n (by decide +kernel : decode LW_law.2.1 1068 = .ok (.iload_n 3, 1)) rfl rfl kk
set_option maxRecDepth 20000 in
theorem LW_law_1069 {X : SX} {d : Nat} {L : List Value} {st : List Value} {h : HH} {Q : Int32 → HH → Prop}   (kk : E X d LW_law 1070 L (.int 3 :: st) h Q) : E X d LW_law 1069 L st h Q := Ev.iconst (by decide +kernel : decode LW_law.2.1 1069 = .ok (.iconst 3, 1)) (by decide) kk
set_option maxRecDepth 20000 in
theorem LW_law_1070 {X : SX} {d : Nat} {L : List Value} {st : List Value} {h : HH} {Q : Int32 → HH → Prop} {x z : Int32}  (kk : E X d LW_law 1071 L (.int (x + z) :: st) h Q) : E X d LW_law 1070 L (.int z :: .int x :: st) h Q := Ev.iadd (by decide +kernel : decode LW_law.2.1 1070 = .ok (.iadd, 1)) kk
set_option maxRecDepth 20000 in
theorem LW_law_1071 {X : SX} {d : Nat} {L : List Value} {st : List Value} {h : HH} {Q : Int32 → HH → Prop} {i : Int32} (hi : vp_in i X.1) (kk : E X d LW_law 1072 L (.int (X.2 i.toNatClampNeg) :: st) h Q) : E X d LW_law 1071 L (.int i :: .ref 1003 :: st) h Q := Ev.tScript (by decide +kernel : decode LW_law.2.1 1071 = .ok (.iaload, 1)) hi kk
set_option maxRecDepth 20000 in
theorem LW_law_1072 {X : SX} {d : Nat} {st : List Value} {h : HH} {Q : Int32 → HH → Prop} {a1 a2 a3 : Value}   (kk : E X d LW_law 1073 [.ref 1003, a1, a2, a3] (.ref 1003 :: st) h Q) : E X d LW_law 1072 [.ref 1003, a1, a2, a3] st h Q := Ev.aload_n (by decide +kernel : decode LW_law.2.1 1072 = .ok (.aload_n 0, 1)) rfl rfl kk
set_option maxRecDepth 20000 in
theorem LW_law_1073 {X : SX} {d : Nat} {st : List Value} {h : HH} {Q : Int32 → HH → Prop} {a0 a1 a2 : Value} {x : Int32}  (kk : E X d LW_law 1074 [a0, a1, a2, .int x] (.int x :: st) h Q) : E X d LW_law 1073 [a0, a1, a2, .int x] st h Q := Ev.iload_n (by decide +kernel : decode LW_law.2.1 1073 = .ok (.iload_n 3, 1)) rfl rfl kk
set_option maxRecDepth 20000 in
theorem LW_law_1074 {X : SX} {d : Nat} {L : List Value} {st : List Value} {h : HH} {Q : Int32 → HH → Prop}   (kk : E X d LW_law 1075 L (.int 4 :: st) h Q) : E X d LW_law 1074 L st h Q := Ev.iconst (by decide +kernel : decode LW_law.2.1 1074 = .ok (.iconst 4, 1)) (by decide) kk
set_option maxRecDepth 20000 in
theorem LW_law_1075 {X : SX} {d : Nat} {L : List Value} {st : List Value} {h : HH} {Q : Int32 → HH → Prop} {x z : Int32}  (kk : E X d LW_law 1076 L (.int (x + z) :: st) h Q) : E X d LW_law 1075 L (.int z :: .int x :: st) h Q := Ev.iadd (by decide +kernel : decode LW_law.2.1 1075 = .ok (.iadd, 1)) kk
set_option maxRecDepth 20000 in
theorem LW_law_1076 {X : SX} {d : Nat} {L : List Value} {st : List Value} {h : HH} {Q : Int32 → HH → Prop} {i : Int32} (hi : vp_in i X.1) (kk : E X d LW_law 1077 L (.int (X.2 i.toNatClampNeg) :: st) h Q) : E X d LW_law 1076 L (.int i :: .ref 1003 :: st) h Q := Ev.tScript (by decide +kernel : decode LW_law.2.1 1076 = .ok (.iaload, 1)) hi kk
set_option maxRecDepth 20000 in
theorem LW_law_1077 {X : SX} {d : Nat} {L : List Value} {st : List Value} {h : HH} {Q : Int32 → HH → Prop} {b0 : Int32} {b1 : Int32} {b2 : Int32} {b3 : Int32}   (hc : (st.map (fun v => v.category)).sum ≤ 8) (kk : E X d FM_loaded 0 [.ref 57, .int b0, .int b1, .int b2, .int b3] [] h (fun x h' => E X (d + 1) LW_law 1080 L (.int x :: st) h' Q)) : E X (d + 1) LW_law 1077 L (.int b3 :: .int b2 :: .int b1 :: .int b0 :: .ref 57 :: st) h Q := E.callVi (n := 4) (ix := 110) (args := [.int b0, .int b1, .int b2, .int b3]) (by decide +kernel : decode LW_law.2.1 1077 = .ok (.invokevirtual 110, 3)) FM_loaded_ok rfl rfl rfl wd_1208 wd_1209 wd_1210 rfl FM_loaded_ds (Nat.le_of_ble_eq_true rfl) hc (by decide) kk
set_option maxRecDepth 20000 in
theorem LW_law_1080 {X : SX} {d : Nat} {L : List Value} {st : List Value} {h : HH} {Q : Int32 → HH → Prop} {x z : Int32}  (kt : x = z → E X d LW_law 1477 L st h Q) (kf : ¬ x = z → E X d LW_law 1083 L st h Q) : E X d LW_law 1080 L (.int z :: .int x :: st) h Q := Ev.icmp_eq (tgt := 1477) (by decide +kernel : decode LW_law.2.1 1080 = .ok (.if_icmp .eq 397, 3)) (by decide) kt kf
set_option maxRecDepth 20000 in
theorem LW_law_1083 {X : SX} {d : Nat} {L : List Value} {st : List Value} {h : HH} {Q : Int32 → HH → Prop}   (kk : E X d LW_law 1084 L (.int 0 :: st) h Q) : E X d LW_law 1083 L st h Q := Ev.iconst (by decide +kernel : decode LW_law.2.1 1083 = .ok (.iconst 0, 1)) (by decide) kk
set_option maxRecDepth 20000 in
theorem LW_law_1084 {X : SX} {d : Nat} {L : List Value} {h : HH} {Q : Int32 → HH → Prop} {x : Int32} (hb : narrow .boolean (.int x) = .int x) (hq : Q x h)  : E X d LW_law 1084 L [.int x] h Q := Ev.ireturn (by decide +kernel : decode LW_law.2.1 1084 = .ok (.ireturn, 1)) rfl hb ⟨rfl, hq⟩
set_option maxRecDepth 20000 in
theorem LW_law_1085 {X : SX} {d : Nat} {st : List Value} {h : HH} {Q : Int32 → HH → Prop} {a0 a2 a3 : Value}   (kk : E X d LW_law 1086 [a0, .ref 0, a2, a3] (.ref 0 :: st) h Q) : E X d LW_law 1085 [a0, .ref 0, a2, a3] st h Q := Ev.aload_n (by decide +kernel : decode LW_law.2.1 1085 = .ok (.aload_n 1, 1)) rfl rfl kk
set_option maxRecDepth 20000 in
theorem LW_law_1086 {X : SX} {d : Nat} {st : List Value} {h : HH} {Q : Int32 → HH → Prop} {a1 a2 a3 : Value}   (kk : E X d LW_law 1087 [.ref 1003, a1, a2, a3] (.ref 1003 :: st) h Q) : E X d LW_law 1086 [.ref 1003, a1, a2, a3] st h Q := Ev.aload_n (by decide +kernel : decode LW_law.2.1 1086 = .ok (.aload_n 0, 1)) rfl rfl kk
set_option maxRecDepth 20000 in
theorem LW_law_1087 {X : SX} {d : Nat} {st : List Value} {h : HH} {Q : Int32 → HH → Prop} {a0 a1 a2 : Value} {x : Int32}  (kk : E X d LW_law 1088 [a0, a1, a2, .int x] (.int x :: st) h Q) : E X d LW_law 1087 [a0, a1, a2, .int x] st h Q := Ev.iload_n (by decide +kernel : decode LW_law.2.1 1087 = .ok (.iload_n 3, 1)) rfl rfl kk
set_option maxRecDepth 20000 in
theorem LW_law_1088 {X : SX} {d : Nat} {L : List Value} {st : List Value} {h : HH} {Q : Int32 → HH → Prop}   (kk : E X d LW_law 1089 L (.int 1 :: st) h Q) : E X d LW_law 1088 L st h Q := Ev.iconst (by decide +kernel : decode LW_law.2.1 1088 = .ok (.iconst 1, 1)) (by decide) kk
set_option maxRecDepth 20000 in
theorem LW_law_1089 {X : SX} {d : Nat} {L : List Value} {st : List Value} {h : HH} {Q : Int32 → HH → Prop} {x z : Int32}  (kk : E X d LW_law 1090 L (.int (x + z) :: st) h Q) : E X d LW_law 1089 L (.int z :: .int x :: st) h Q := Ev.iadd (by decide +kernel : decode LW_law.2.1 1089 = .ok (.iadd, 1)) kk
set_option maxRecDepth 20000 in
theorem LW_law_1090 {X : SX} {d : Nat} {L : List Value} {st : List Value} {h : HH} {Q : Int32 → HH → Prop} {i : Int32} (hi : vp_in i X.1) (kk : E X d LW_law 1091 L (.int (X.2 i.toNatClampNeg) :: st) h Q) : E X d LW_law 1090 L (.int i :: .ref 1003 :: st) h Q := Ev.tScript (by decide +kernel : decode LW_law.2.1 1090 = .ok (.iaload, 1)) hi kk
set_option maxRecDepth 20000 in
theorem LW_law_1091 {X : SX} {d : Nat} {st : List Value} {h : HH} {Q : Int32 → HH → Prop} {a1 a2 a3 : Value}   (kk : E X d LW_law 1092 [.ref 1003, a1, a2, a3] (.ref 1003 :: st) h Q) : E X d LW_law 1091 [.ref 1003, a1, a2, a3] st h Q := Ev.aload_n (by decide +kernel : decode LW_law.2.1 1091 = .ok (.aload_n 0, 1)) rfl rfl kk
set_option maxRecDepth 20000 in
theorem LW_law_1092 {X : SX} {d : Nat} {st : List Value} {h : HH} {Q : Int32 → HH → Prop} {a0 a1 a2 : Value} {x : Int32}  (kk : E X d LW_law 1093 [a0, a1, a2, .int x] (.int x :: st) h Q) : E X d LW_law 1092 [a0, a1, a2, .int x] st h Q := Ev.iload_n (by decide +kernel : decode LW_law.2.1 1092 = .ok (.iload_n 3, 1)) rfl rfl kk
set_option maxRecDepth 20000 in
theorem LW_law_1093 {X : SX} {d : Nat} {L : List Value} {st : List Value} {h : HH} {Q : Int32 → HH → Prop}   (kk : E X d LW_law 1094 L (.int 2 :: st) h Q) : E X d LW_law 1093 L st h Q := Ev.iconst (by decide +kernel : decode LW_law.2.1 1093 = .ok (.iconst 2, 1)) (by decide) kk
set_option maxRecDepth 20000 in
theorem LW_law_1094 {X : SX} {d : Nat} {L : List Value} {st : List Value} {h : HH} {Q : Int32 → HH → Prop} {x z : Int32}  (kk : E X d LW_law 1095 L (.int (x + z) :: st) h Q) : E X d LW_law 1094 L (.int z :: .int x :: st) h Q := Ev.iadd (by decide +kernel : decode LW_law.2.1 1094 = .ok (.iadd, 1)) kk
set_option maxRecDepth 20000 in
theorem LW_law_1095 {X : SX} {d : Nat} {L : List Value} {st : List Value} {h : HH} {Q : Int32 → HH → Prop} {i : Int32} (hi : vp_in i X.1) (kk : E X d LW_law 1096 L (.int (X.2 i.toNatClampNeg) :: st) h Q) : E X d LW_law 1095 L (.int i :: .ref 1003 :: st) h Q := Ev.tScript (by decide +kernel : decode LW_law.2.1 1095 = .ok (.iaload, 1)) hi kk
set_option maxRecDepth 20000 in
theorem LW_law_1096 {X : SX} {d : Nat} {st : List Value} {h : HH} {Q : Int32 → HH → Prop} {a1 a2 a3 : Value}   (kk : E X d LW_law 1097 [.ref 1003, a1, a2, a3] (.ref 1003 :: st) h Q) : E X d LW_law 1096 [.ref 1003, a1, a2, a3] st h Q := Ev.aload_n (by decide +kernel : decode LW_law.2.1 1096 = .ok (.aload_n 0, 1)) rfl rfl kk
set_option maxRecDepth 20000 in
theorem LW_law_1097 {X : SX} {d : Nat} {st : List Value} {h : HH} {Q : Int32 → HH → Prop} {a0 a1 a2 : Value} {x : Int32}  (kk : E X d LW_law 1098 [a0, a1, a2, .int x] (.int x :: st) h Q) : E X d LW_law 1097 [a0, a1, a2, .int x] st h Q := Ev.iload_n (by decide +kernel : decode LW_law.2.1 1097 = .ok (.iload_n 3, 1)) rfl rfl kk
set_option maxRecDepth 20000 in
theorem LW_law_1098 {X : SX} {d : Nat} {L : List Value} {st : List Value} {h : HH} {Q : Int32 → HH → Prop}   (kk : E X d LW_law 1099 L (.int 3 :: st) h Q) : E X d LW_law 1098 L st h Q := Ev.iconst (by decide +kernel : decode LW_law.2.1 1098 = .ok (.iconst 3, 1)) (by decide) kk
set_option maxRecDepth 20000 in
theorem LW_law_1099 {X : SX} {d : Nat} {L : List Value} {st : List Value} {h : HH} {Q : Int32 → HH → Prop} {x z : Int32}  (kk : E X d LW_law 1100 L (.int (x + z) :: st) h Q) : E X d LW_law 1099 L (.int z :: .int x :: st) h Q := Ev.iadd (by decide +kernel : decode LW_law.2.1 1099 = .ok (.iadd, 1)) kk
set_option maxRecDepth 20000 in
theorem LW_law_1100 {X : SX} {d : Nat} {L : List Value} {st : List Value} {h : HH} {Q : Int32 → HH → Prop} {i : Int32} (hi : vp_in i X.1) (kk : E X d LW_law 1101 L (.int (X.2 i.toNatClampNeg) :: st) h Q) : E X d LW_law 1100 L (.int i :: .ref 1003 :: st) h Q := Ev.tScript (by decide +kernel : decode LW_law.2.1 1100 = .ok (.iaload, 1)) hi kk
set_option maxRecDepth 20000 in
theorem LW_law_1101 {X : SX} {d : Nat} {L : List Value} {st : List Value} {h : HH} {Q : Int32 → HH → Prop} {b0 : Int32} {b1 : Int32} {b2 : Int32}   (hc : (st.map (fun v => v.category)).sum ≤ 8) (kk : E X d FC_fewest 0 [.ref 0, .int b0, .int b1, .int b2] [] h (fun x h' => E X (d + 1) LW_law 1104 L (.int x :: st) h' Q)) : E X (d + 1) LW_law 1101 L (.int b2 :: .int b1 :: .int b0 :: .ref 0 :: st) h Q := E.callVi (n := 3) (ix := 111) (args := [.int b0, .int b1, .int b2]) (by decide +kernel : decode LW_law.2.1 1101 = .ok (.invokevirtual 111, 3)) FC_fewest_ok rfl rfl rfl wd_677 wd_678 wd_679 rfl FC_fewest_ds (Nat.le_of_ble_eq_true rfl) hc (by decide) kk
set_option maxRecDepth 20000 in
theorem LW_law_1104 {X : SX} {d : Nat} {st : List Value} {h : HH} {Q : Int32 → HH → Prop} {a0 a1 a3 : Value}   (kk : E X d LW_law 1105 [a0, a1, .ref 57, a3] (.ref 57 :: st) h Q) : E X d LW_law 1104 [a0, a1, .ref 57, a3] st h Q := Ev.aload_n (by decide +kernel : decode LW_law.2.1 1104 = .ok (.aload_n 2, 1)) rfl rfl kk
set_option maxRecDepth 20000 in
theorem LW_law_1105 {X : SX} {d : Nat} {st : List Value} {h : HH} {Q : Int32 → HH → Prop} {a1 a2 a3 : Value}   (kk : E X d LW_law 1106 [.ref 1003, a1, a2, a3] (.ref 1003 :: st) h Q) : E X d LW_law 1105 [.ref 1003, a1, a2, a3] st h Q := Ev.aload_n (by decide +kernel : decode LW_law.2.1 1105 = .ok (.aload_n 0, 1)) rfl rfl kk
set_option maxRecDepth 20000 in
theorem LW_law_1106 {X : SX} {d : Nat} {st : List Value} {h : HH} {Q : Int32 → HH → Prop} {a0 a1 a2 : Value} {x : Int32}  (kk : E X d LW_law 1107 [a0, a1, a2, .int x] (.int x :: st) h Q) : E X d LW_law 1106 [a0, a1, a2, .int x] st h Q := Ev.iload_n (by decide +kernel : decode LW_law.2.1 1106 = .ok (.iload_n 3, 1)) rfl rfl kk
set_option maxRecDepth 20000 in
theorem LW_law_1107 {X : SX} {d : Nat} {L : List Value} {st : List Value} {h : HH} {Q : Int32 → HH → Prop}   (kk : E X d LW_law 1108 L (.int 1 :: st) h Q) : E X d LW_law 1107 L st h Q := Ev.iconst (by decide +kernel : decode LW_law.2.1 1107 = .ok (.iconst 1, 1)) (by decide) kk
set_option maxRecDepth 20000 in
theorem LW_law_1108 {X : SX} {d : Nat} {L : List Value} {st : List Value} {h : HH} {Q : Int32 → HH → Prop} {x z : Int32}  (kk : E X d LW_law 1109 L (.int (x + z) :: st) h Q) : E X d LW_law 1108 L (.int z :: .int x :: st) h Q := Ev.iadd (by decide +kernel : decode LW_law.2.1 1108 = .ok (.iadd, 1)) kk
set_option maxRecDepth 20000 in
theorem LW_law_1109 {X : SX} {d : Nat} {L : List Value} {st : List Value} {h : HH} {Q : Int32 → HH → Prop} {i : Int32} (hi : vp_in i X.1) (kk : E X d LW_law 1110 L (.int (X.2 i.toNatClampNeg) :: st) h Q) : E X d LW_law 1109 L (.int i :: .ref 1003 :: st) h Q := Ev.tScript (by decide +kernel : decode LW_law.2.1 1109 = .ok (.iaload, 1)) hi kk
set_option maxRecDepth 20000 in
theorem LW_law_1110 {X : SX} {d : Nat} {st : List Value} {h : HH} {Q : Int32 → HH → Prop} {a1 a2 a3 : Value}   (kk : E X d LW_law 1111 [.ref 1003, a1, a2, a3] (.ref 1003 :: st) h Q) : E X d LW_law 1110 [.ref 1003, a1, a2, a3] st h Q := Ev.aload_n (by decide +kernel : decode LW_law.2.1 1110 = .ok (.aload_n 0, 1)) rfl rfl kk
set_option maxRecDepth 20000 in
theorem LW_law_1111 {X : SX} {d : Nat} {st : List Value} {h : HH} {Q : Int32 → HH → Prop} {a0 a1 a2 : Value} {x : Int32}  (kk : E X d LW_law 1112 [a0, a1, a2, .int x] (.int x :: st) h Q) : E X d LW_law 1111 [a0, a1, a2, .int x] st h Q := Ev.iload_n (by decide +kernel : decode LW_law.2.1 1111 = .ok (.iload_n 3, 1)) rfl rfl kk
set_option maxRecDepth 20000 in
theorem LW_law_1112 {X : SX} {d : Nat} {L : List Value} {st : List Value} {h : HH} {Q : Int32 → HH → Prop}   (kk : E X d LW_law 1113 L (.int 2 :: st) h Q) : E X d LW_law 1112 L st h Q := Ev.iconst (by decide +kernel : decode LW_law.2.1 1112 = .ok (.iconst 2, 1)) (by decide) kk
set_option maxRecDepth 20000 in
theorem LW_law_1113 {X : SX} {d : Nat} {L : List Value} {st : List Value} {h : HH} {Q : Int32 → HH → Prop} {x z : Int32}  (kk : E X d LW_law 1114 L (.int (x + z) :: st) h Q) : E X d LW_law 1113 L (.int z :: .int x :: st) h Q := Ev.iadd (by decide +kernel : decode LW_law.2.1 1113 = .ok (.iadd, 1)) kk
set_option maxRecDepth 20000 in
theorem LW_law_1114 {X : SX} {d : Nat} {L : List Value} {st : List Value} {h : HH} {Q : Int32 → HH → Prop} {i : Int32} (hi : vp_in i X.1) (kk : E X d LW_law 1115 L (.int (X.2 i.toNatClampNeg) :: st) h Q) : E X d LW_law 1114 L (.int i :: .ref 1003 :: st) h Q := Ev.tScript (by decide +kernel : decode LW_law.2.1 1114 = .ok (.iaload, 1)) hi kk
set_option maxRecDepth 20000 in
theorem LW_law_1115 {X : SX} {d : Nat} {st : List Value} {h : HH} {Q : Int32 → HH → Prop} {a1 a2 a3 : Value}   (kk : E X d LW_law 1116 [.ref 1003, a1, a2, a3] (.ref 1003 :: st) h Q) : E X d LW_law 1115 [.ref 1003, a1, a2, a3] st h Q := Ev.aload_n (by decide +kernel : decode LW_law.2.1 1115 = .ok (.aload_n 0, 1)) rfl rfl kk
set_option maxRecDepth 20000 in
theorem LW_law_1116 {X : SX} {d : Nat} {st : List Value} {h : HH} {Q : Int32 → HH → Prop} {a0 a1 a2 : Value} {x : Int32}  (kk : E X d LW_law 1117 [a0, a1, a2, .int x] (.int x :: st) h Q) : E X d LW_law 1116 [a0, a1, a2, .int x] st h Q := Ev.iload_n (by decide +kernel : decode LW_law.2.1 1116 = .ok (.iload_n 3, 1)) rfl rfl kk
set_option maxRecDepth 20000 in
theorem LW_law_1117 {X : SX} {d : Nat} {L : List Value} {st : List Value} {h : HH} {Q : Int32 → HH → Prop}   (kk : E X d LW_law 1118 L (.int 3 :: st) h Q) : E X d LW_law 1117 L st h Q := Ev.iconst (by decide +kernel : decode LW_law.2.1 1117 = .ok (.iconst 3, 1)) (by decide) kk
set_option maxRecDepth 20000 in
theorem LW_law_1118 {X : SX} {d : Nat} {L : List Value} {st : List Value} {h : HH} {Q : Int32 → HH → Prop} {x z : Int32}  (kk : E X d LW_law 1119 L (.int (x + z) :: st) h Q) : E X d LW_law 1118 L (.int z :: .int x :: st) h Q := Ev.iadd (by decide +kernel : decode LW_law.2.1 1118 = .ok (.iadd, 1)) kk
set_option maxRecDepth 20000 in
theorem LW_law_1119 {X : SX} {d : Nat} {L : List Value} {st : List Value} {h : HH} {Q : Int32 → HH → Prop} {i : Int32} (hi : vp_in i X.1) (kk : E X d LW_law 1120 L (.int (X.2 i.toNatClampNeg) :: st) h Q) : E X d LW_law 1119 L (.int i :: .ref 1003 :: st) h Q := Ev.tScript (by decide +kernel : decode LW_law.2.1 1119 = .ok (.iaload, 1)) hi kk
set_option maxRecDepth 20000 in
theorem LW_law_1120 {X : SX} {d : Nat} {L : List Value} {st : List Value} {h : HH} {Q : Int32 → HH → Prop} {b0 : Int32} {b1 : Int32} {b2 : Int32}   (hc : (st.map (fun v => v.category)).sum ≤ 8) (kk : E X d FM_fewest 0 [.ref 57, .int b0, .int b1, .int b2, U0, U0, U0, U0, U0] [] h (fun x h' => E X (d + 1) LW_law 1123 L (.int x :: st) h' Q)) : E X (d + 1) LW_law 1120 L (.int b2 :: .int b1 :: .int b0 :: .ref 57 :: st) h Q := E.callVi (n := 3) (ix := 114) (args := [.int b0, .int b1, .int b2]) (by decide +kernel : decode LW_law.2.1 1120 = .ok (.invokevirtual 114, 3)) FM_fewest_ok rfl rfl rfl wd_1216 wd_1217 wd_1218 rfl FM_fewest_ds (Nat.le_of_ble_eq_true rfl) hc (by decide) kk
set_option maxRecDepth 20000 in
theorem LW_law_1123 {X : SX} {d : Nat} {L : List Value} {st : List Value} {h : HH} {Q : Int32 → HH → Prop} {x z : Int32}  (kt : x = z → E X d LW_law 1477 L st h Q) (kf : ¬ x = z → E X d LW_law 1126 L st h Q) : E X d LW_law 1123 L (.int z :: .int x :: st) h Q := Ev.icmp_eq (tgt := 1477) (by decide +kernel : decode LW_law.2.1 1123 = .ok (.if_icmp .eq 354, 3)) (by decide) kt kf
set_option maxRecDepth 20000 in
theorem LW_law_1126 {X : SX} {d : Nat} {L : List Value} {st : List Value} {h : HH} {Q : Int32 → HH → Prop}   (kk : E X d LW_law 1127 L (.int 0 :: st) h Q) : E X d LW_law 1126 L st h Q := Ev.iconst (by decide +kernel : decode LW_law.2.1 1126 = .ok (.iconst 0, 1)) (by decide) kk
set_option maxRecDepth 20000 in
theorem LW_law_1127 {X : SX} {d : Nat} {L : List Value} {h : HH} {Q : Int32 → HH → Prop} {x : Int32} (hb : narrow .boolean (.int x) = .int x) (hq : Q x h)  : E X d LW_law 1127 L [.int x] h Q := Ev.ireturn (by decide +kernel : decode LW_law.2.1 1127 = .ok (.ireturn, 1)) rfl hb ⟨rfl, hq⟩
set_option maxRecDepth 20000 in
theorem LW_law_1128 {X : SX} {d : Nat} {st : List Value} {h : HH} {Q : Int32 → HH → Prop} {a0 a2 a3 : Value}   (kk : E X d LW_law 1129 [a0, .ref 0, a2, a3] (.ref 0 :: st) h Q) : E X d LW_law 1128 [a0, .ref 0, a2, a3] st h Q := Ev.aload_n (by decide +kernel : decode LW_law.2.1 1128 = .ok (.aload_n 1, 1)) rfl rfl kk
set_option maxRecDepth 20000 in
theorem LW_law_1129 {X : SX} {d : Nat} {st : List Value} {h : HH} {Q : Int32 → HH → Prop} {a1 a2 a3 : Value}   (kk : E X d LW_law 1130 [.ref 1003, a1, a2, a3] (.ref 1003 :: st) h Q) : E X d LW_law 1129 [.ref 1003, a1, a2, a3] st h Q := Ev.aload_n (by decide +kernel : decode LW_law.2.1 1129 = .ok (.aload_n 0, 1)) rfl rfl kk
set_option maxRecDepth 20000 in
theorem LW_law_1130 {X : SX} {d : Nat} {st : List Value} {h : HH} {Q : Int32 → HH → Prop} {a0 a1 a2 : Value} {x : Int32}  (kk : E X d LW_law 1131 [a0, a1, a2, .int x] (.int x :: st) h Q) : E X d LW_law 1130 [a0, a1, a2, .int x] st h Q := Ev.iload_n (by decide +kernel : decode LW_law.2.1 1130 = .ok (.iload_n 3, 1)) rfl rfl kk
set_option maxRecDepth 20000 in
theorem LW_law_1131 {X : SX} {d : Nat} {L : List Value} {st : List Value} {h : HH} {Q : Int32 → HH → Prop}   (kk : E X d LW_law 1132 L (.int 1 :: st) h Q) : E X d LW_law 1131 L st h Q := Ev.iconst (by decide +kernel : decode LW_law.2.1 1131 = .ok (.iconst 1, 1)) (by decide) kk
set_option maxRecDepth 20000 in
theorem LW_law_1132 {X : SX} {d : Nat} {L : List Value} {st : List Value} {h : HH} {Q : Int32 → HH → Prop} {x z : Int32}  (kk : E X d LW_law 1133 L (.int (x + z) :: st) h Q) : E X d LW_law 1132 L (.int z :: .int x :: st) h Q := Ev.iadd (by decide +kernel : decode LW_law.2.1 1132 = .ok (.iadd, 1)) kk
set_option maxRecDepth 20000 in
theorem LW_law_1133 {X : SX} {d : Nat} {L : List Value} {st : List Value} {h : HH} {Q : Int32 → HH → Prop} {i : Int32} (hi : vp_in i X.1) (kk : E X d LW_law 1134 L (.int (X.2 i.toNatClampNeg) :: st) h Q) : E X d LW_law 1133 L (.int i :: .ref 1003 :: st) h Q := Ev.tScript (by decide +kernel : decode LW_law.2.1 1133 = .ok (.iaload, 1)) hi kk
set_option maxRecDepth 20000 in
theorem LW_law_1134 {X : SX} {d : Nat} {st : List Value} {h : HH} {Q : Int32 → HH → Prop} {a1 a2 a3 : Value}   (kk : E X d LW_law 1135 [.ref 1003, a1, a2, a3] (.ref 1003 :: st) h Q) : E X d LW_law 1134 [.ref 1003, a1, a2, a3] st h Q := Ev.aload_n (by decide +kernel : decode LW_law.2.1 1134 = .ok (.aload_n 0, 1)) rfl rfl kk
set_option maxRecDepth 20000 in
theorem LW_law_1135 {X : SX} {d : Nat} {st : List Value} {h : HH} {Q : Int32 → HH → Prop} {a0 a1 a2 : Value} {x : Int32}  (kk : E X d LW_law 1136 [a0, a1, a2, .int x] (.int x :: st) h Q) : E X d LW_law 1135 [a0, a1, a2, .int x] st h Q := Ev.iload_n (by decide +kernel : decode LW_law.2.1 1135 = .ok (.iload_n 3, 1)) rfl rfl kk
set_option maxRecDepth 20000 in
theorem LW_law_1136 {X : SX} {d : Nat} {L : List Value} {st : List Value} {h : HH} {Q : Int32 → HH → Prop}   (kk : E X d LW_law 1137 L (.int 2 :: st) h Q) : E X d LW_law 1136 L st h Q := Ev.iconst (by decide +kernel : decode LW_law.2.1 1136 = .ok (.iconst 2, 1)) (by decide) kk
set_option maxRecDepth 20000 in
theorem LW_law_1137 {X : SX} {d : Nat} {L : List Value} {st : List Value} {h : HH} {Q : Int32 → HH → Prop} {x z : Int32}  (kk : E X d LW_law 1138 L (.int (x + z) :: st) h Q) : E X d LW_law 1137 L (.int z :: .int x :: st) h Q := Ev.iadd (by decide +kernel : decode LW_law.2.1 1137 = .ok (.iadd, 1)) kk
set_option maxRecDepth 20000 in
theorem LW_law_1138 {X : SX} {d : Nat} {L : List Value} {st : List Value} {h : HH} {Q : Int32 → HH → Prop} {i : Int32} (hi : vp_in i X.1) (kk : E X d LW_law 1139 L (.int (X.2 i.toNatClampNeg) :: st) h Q) : E X d LW_law 1138 L (.int i :: .ref 1003 :: st) h Q := Ev.tScript (by decide +kernel : decode LW_law.2.1 1138 = .ok (.iaload, 1)) hi kk
set_option maxRecDepth 20000 in
theorem LW_law_1139 {X : SX} {d : Nat} {st : List Value} {h : HH} {Q : Int32 → HH → Prop} {a1 a2 a3 : Value}   (kk : E X d LW_law 1140 [.ref 1003, a1, a2, a3] (.ref 1003 :: st) h Q) : E X d LW_law 1139 [.ref 1003, a1, a2, a3] st h Q := Ev.aload_n (by decide +kernel : decode LW_law.2.1 1139 = .ok (.aload_n 0, 1)) rfl rfl kk
set_option maxRecDepth 20000 in
theorem LW_law_1140 {X : SX} {d : Nat} {st : List Value} {h : HH} {Q : Int32 → HH → Prop} {a0 a1 a2 : Value} {x : Int32}  (kk : E X d LW_law 1141 [a0, a1, a2, .int x] (.int x :: st) h Q) : E X d LW_law 1140 [a0, a1, a2, .int x] st h Q := Ev.iload_n (by decide +kernel : decode LW_law.2.1 1140 = .ok (.iload_n 3, 1)) rfl rfl kk
set_option maxRecDepth 20000 in
theorem LW_law_1141 {X : SX} {d : Nat} {L : List Value} {st : List Value} {h : HH} {Q : Int32 → HH → Prop}   (kk : E X d LW_law 1142 L (.int 3 :: st) h Q) : E X d LW_law 1141 L st h Q := Ev.iconst (by decide +kernel : decode LW_law.2.1 1141 = .ok (.iconst 3, 1)) (by decide) kk
set_option maxRecDepth 20000 in
theorem LW_law_1142 {X : SX} {d : Nat} {L : List Value} {st : List Value} {h : HH} {Q : Int32 → HH → Prop} {x z : Int32}  (kk : E X d LW_law 1143 L (.int (x + z) :: st) h Q) : E X d LW_law 1142 L (.int z :: .int x :: st) h Q := Ev.iadd (by decide +kernel : decode LW_law.2.1 1142 = .ok (.iadd, 1)) kk
set_option maxRecDepth 20000 in
theorem LW_law_1143 {X : SX} {d : Nat} {L : List Value} {st : List Value} {h : HH} {Q : Int32 → HH → Prop} {i : Int32} (hi : vp_in i X.1) (kk : E X d LW_law 1144 L (.int (X.2 i.toNatClampNeg) :: st) h Q) : E X d LW_law 1143 L (.int i :: .ref 1003 :: st) h Q := Ev.tScript (by decide +kernel : decode LW_law.2.1 1143 = .ok (.iaload, 1)) hi kk
set_option maxRecDepth 20000 in
theorem LW_law_1144 {X : SX} {d : Nat} {L : List Value} {st : List Value} {h : HH} {Q : Int32 → HH → Prop} {b0 : Int32} {b1 : Int32} {b2 : Int32}   (hc : (st.map (fun v => v.category)).sum ≤ 8) (kk : E X d FC_beside 0 [.ref 0, .int b0, .int b1, .int b2, U0] [] h (fun x h' => E X (d + 1) LW_law 1147 L (.int x :: st) h' Q)) : E X (d + 1) LW_law 1144 L (.int b2 :: .int b1 :: .int b0 :: .ref 0 :: st) h Q := E.callVi (n := 3) (ix := 115) (args := [.int b0, .int b1, .int b2]) (by decide +kernel : decode LW_law.2.1 1144 = .ok (.invokevirtual 115, 3)) FC_beside_ok rfl rfl rfl wd_703 wd_704 wd_705 rfl FC_beside_ds (Nat.le_of_ble_eq_true rfl) hc (by decide) kk
set_option maxRecDepth 20000 in
theorem LW_law_1147 {X : SX} {d : Nat} {st : List Value} {h : HH} {Q : Int32 → HH → Prop} {a0 a1 a3 : Value}   (kk : E X d LW_law 1148 [a0, a1, .ref 57, a3] (.ref 57 :: st) h Q) : E X d LW_law 1147 [a0, a1, .ref 57, a3] st h Q := Ev.aload_n (by decide +kernel : decode LW_law.2.1 1147 = .ok (.aload_n 2, 1)) rfl rfl kk
set_option maxRecDepth 20000 in
theorem LW_law_1148 {X : SX} {d : Nat} {st : List Value} {h : HH} {Q : Int32 → HH → Prop} {a1 a2 a3 : Value}   (kk : E X d LW_law 1149 [.ref 1003, a1, a2, a3] (.ref 1003 :: st) h Q) : E X d LW_law 1148 [.ref 1003, a1, a2, a3] st h Q := Ev.aload_n (by decide +kernel : decode LW_law.2.1 1148 = .ok (.aload_n 0, 1)) rfl rfl kk
set_option maxRecDepth 20000 in
theorem LW_law_1149 {X : SX} {d : Nat} {st : List Value} {h : HH} {Q : Int32 → HH → Prop} {a0 a1 a2 : Value} {x : Int32}  (kk : E X d LW_law 1150 [a0, a1, a2, .int x] (.int x :: st) h Q) : E X d LW_law 1149 [a0, a1, a2, .int x] st h Q := Ev.iload_n (by decide +kernel : decode LW_law.2.1 1149 = .ok (.iload_n 3, 1)) rfl rfl kk
set_option maxRecDepth 20000 in
theorem LW_law_1150 {X : SX} {d : Nat} {L : List Value} {st : List Value} {h : HH} {Q : Int32 → HH → Prop}   (kk : E X d LW_law 1151 L (.int 1 :: st) h Q) : E X d LW_law 1150 L st h Q := Ev.iconst (by decide +kernel : decode LW_law.2.1 1150 = .ok (.iconst 1, 1)) (by decide) kk
set_option maxRecDepth 20000 in
theorem LW_law_1151 {X : SX} {d : Nat} {L : List Value} {st : List Value} {h : HH} {Q : Int32 → HH → Prop} {x z : Int32}  (kk : E X d LW_law 1152 L (.int (x + z) :: st) h Q) : E X d LW_law 1151 L (.int z :: .int x :: st) h Q := Ev.iadd (by decide +kernel : decode LW_law.2.1 1151 = .ok (.iadd, 1)) kk
set_option maxRecDepth 20000 in
theorem LW_law_1152 {X : SX} {d : Nat} {L : List Value} {st : List Value} {h : HH} {Q : Int32 → HH → Prop} {i : Int32} (hi : vp_in i X.1) (kk : E X d LW_law 1153 L (.int (X.2 i.toNatClampNeg) :: st) h Q) : E X d LW_law 1152 L (.int i :: .ref 1003 :: st) h Q := Ev.tScript (by decide +kernel : decode LW_law.2.1 1152 = .ok (.iaload, 1)) hi kk
set_option maxRecDepth 20000 in
theorem LW_law_1153 {X : SX} {d : Nat} {st : List Value} {h : HH} {Q : Int32 → HH → Prop} {a1 a2 a3 : Value}   (kk : E X d LW_law 1154 [.ref 1003, a1, a2, a3] (.ref 1003 :: st) h Q) : E X d LW_law 1153 [.ref 1003, a1, a2, a3] st h Q := Ev.aload_n (by decide +kernel : decode LW_law.2.1 1153 = .ok (.aload_n 0, 1)) rfl rfl kk
set_option maxRecDepth 20000 in
theorem LW_law_1154 {X : SX} {d : Nat} {st : List Value} {h : HH} {Q : Int32 → HH → Prop} {a0 a1 a2 : Value} {x : Int32}  (kk : E X d LW_law 1155 [a0, a1, a2, .int x] (.int x :: st) h Q) : E X d LW_law 1154 [a0, a1, a2, .int x] st h Q := Ev.iload_n (by decide +kernel : decode LW_law.2.1 1154 = .ok (.iload_n 3, 1)) rfl rfl kk
set_option maxRecDepth 20000 in
theorem LW_law_1155 {X : SX} {d : Nat} {L : List Value} {st : List Value} {h : HH} {Q : Int32 → HH → Prop}   (kk : E X d LW_law 1156 L (.int 2 :: st) h Q) : E X d LW_law 1155 L st h Q := Ev.iconst (by decide +kernel : decode LW_law.2.1 1155 = .ok (.iconst 2, 1)) (by decide) kk
set_option maxRecDepth 20000 in
theorem LW_law_1156 {X : SX} {d : Nat} {L : List Value} {st : List Value} {h : HH} {Q : Int32 → HH → Prop} {x z : Int32}  (kk : E X d LW_law 1157 L (.int (x + z) :: st) h Q) : E X d LW_law 1156 L (.int z :: .int x :: st) h Q := Ev.iadd (by decide +kernel : decode LW_law.2.1 1156 = .ok (.iadd, 1)) kk
set_option maxRecDepth 20000 in
theorem LW_law_1157 {X : SX} {d : Nat} {L : List Value} {st : List Value} {h : HH} {Q : Int32 → HH → Prop} {i : Int32} (hi : vp_in i X.1) (kk : E X d LW_law 1158 L (.int (X.2 i.toNatClampNeg) :: st) h Q) : E X d LW_law 1157 L (.int i :: .ref 1003 :: st) h Q := Ev.tScript (by decide +kernel : decode LW_law.2.1 1157 = .ok (.iaload, 1)) hi kk
set_option maxRecDepth 20000 in
theorem LW_law_1158 {X : SX} {d : Nat} {st : List Value} {h : HH} {Q : Int32 → HH → Prop} {a1 a2 a3 : Value}   (kk : E X d LW_law 1159 [.ref 1003, a1, a2, a3] (.ref 1003 :: st) h Q) : E X d LW_law 1158 [.ref 1003, a1, a2, a3] st h Q := Ev.aload_n (by decide +kernel : decode LW_law.2.1 1158 = .ok (.aload_n 0, 1)) rfl rfl kk
set_option maxRecDepth 20000 in
theorem LW_law_1159 {X : SX} {d : Nat} {st : List Value} {h : HH} {Q : Int32 → HH → Prop} {a0 a1 a2 : Value} {x : Int32}  (kk : E X d LW_law 1160 [a0, a1, a2, .int x] (.int x :: st) h Q) : E X d LW_law 1159 [a0, a1, a2, .int x] st h Q := Ev.iload_n (by decide +kernel : decode LW_law.2.1 1159 = .ok (.iload_n 3, 1)) rfl rfl kk
set_option maxRecDepth 20000 in
theorem LW_law_1160 {X : SX} {d : Nat} {L : List Value} {st : List Value} {h : HH} {Q : Int32 → HH → Prop}   (kk : E X d LW_law 1161 L (.int 3 :: st) h Q) : E X d LW_law 1160 L st h Q := Ev.iconst (by decide +kernel : decode LW_law.2.1 1160 = .ok (.iconst 3, 1)) (by decide) kk
set_option maxRecDepth 20000 in
theorem LW_law_1161 {X : SX} {d : Nat} {L : List Value} {st : List Value} {h : HH} {Q : Int32 → HH → Prop} {x z : Int32}  (kk : E X d LW_law 1162 L (.int (x + z) :: st) h Q) : E X d LW_law 1161 L (.int z :: .int x :: st) h Q := Ev.iadd (by decide +kernel : decode LW_law.2.1 1161 = .ok (.iadd, 1)) kk
set_option maxRecDepth 20000 in
theorem LW_law_1162 {X : SX} {d : Nat} {L : List Value} {st : List Value} {h : HH} {Q : Int32 → HH → Prop} {i : Int32} (hi : vp_in i X.1) (kk : E X d LW_law 1163 L (.int (X.2 i.toNatClampNeg) :: st) h Q) : E X d LW_law 1162 L (.int i :: .ref 1003 :: st) h Q := Ev.tScript (by decide +kernel : decode LW_law.2.1 1162 = .ok (.iaload, 1)) hi kk
set_option maxRecDepth 20000 in
theorem LW_law_1163 {X : SX} {d : Nat} {L : List Value} {st : List Value} {h : HH} {Q : Int32 → HH → Prop} {b0 : Int32} {b1 : Int32} {b2 : Int32}   (hc : (st.map (fun v => v.category)).sum ≤ 8) (kk : E X d FM_beside 0 [.ref 57, .int b0, .int b1, .int b2, U0, U0, U0, U0] [] h (fun x h' => E X (d + 1) LW_law 1166 L (.int x :: st) h' Q)) : E X (d + 1) LW_law 1163 L (.int b2 :: .int b1 :: .int b0 :: .ref 57 :: st) h Q := E.callVi (n := 3) (ix := 118) (args := [.int b0, .int b1, .int b2]) (by decide +kernel : decode LW_law.2.1 1163 = .ok (.invokevirtual 118, 3)) FM_beside_ok rfl rfl rfl wd_1231 wd_1232 wd_1233 rfl FM_beside_ds (Nat.le_of_ble_eq_true rfl) hc (by decide) kk
set_option maxRecDepth 20000 in
theorem LW_law_1166 {X : SX} {d : Nat} {L : List Value} {st : List Value} {h : HH} {Q : Int32 → HH → Prop} {x z : Int32}  (kt : x = z → E X d LW_law 1477 L st h Q) (kf : ¬ x = z → E X d LW_law 1169 L st h Q) : E X d LW_law 1166 L (.int z :: .int x :: st) h Q := Ev.icmp_eq (tgt := 1477) (by decide +kernel : decode LW_law.2.1 1166 = .ok (.if_icmp .eq 311, 3)) (by decide) kt kf
set_option maxRecDepth 20000 in
theorem LW_law_1169 {X : SX} {d : Nat} {L : List Value} {st : List Value} {h : HH} {Q : Int32 → HH → Prop}   (kk : E X d LW_law 1170 L (.int 0 :: st) h Q) : E X d LW_law 1169 L st h Q := Ev.iconst (by decide +kernel : decode LW_law.2.1 1169 = .ok (.iconst 0, 1)) (by decide) kk
set_option maxRecDepth 20000 in
theorem LW_law_1170 {X : SX} {d : Nat} {L : List Value} {h : HH} {Q : Int32 → HH → Prop} {x : Int32} (hb : narrow .boolean (.int x) = .int x) (hq : Q x h)  : E X d LW_law 1170 L [.int x] h Q := Ev.ireturn (by decide +kernel : decode LW_law.2.1 1170 = .ok (.ireturn, 1)) rfl hb ⟨rfl, hq⟩
set_option maxRecDepth 20000 in
theorem LW_law_1171 {X : SX} {d : Nat} {st : List Value} {h : HH} {Q : Int32 → HH → Prop} {a0 a2 a3 : Value}   (kk : E X d LW_law 1172 [a0, .ref 0, a2, a3] (.ref 0 :: st) h Q) : E X d LW_law 1171 [a0, .ref 0, a2, a3] st h Q := Ev.aload_n (by decide +kernel : decode LW_law.2.1 1171 = .ok (.aload_n 1, 1)) rfl rfl kk
set_option maxRecDepth 20000 in
theorem LW_law_1172 {X : SX} {d : Nat} {st : List Value} {h : HH} {Q : Int32 → HH → Prop} {a1 a2 a3 : Value}   (kk : E X d LW_law 1173 [.ref 1003, a1, a2, a3] (.ref 1003 :: st) h Q) : E X d LW_law 1172 [.ref 1003, a1, a2, a3] st h Q := Ev.aload_n (by decide +kernel : decode LW_law.2.1 1172 = .ok (.aload_n 0, 1)) rfl rfl kk
set_option maxRecDepth 20000 in
theorem LW_law_1173 {X : SX} {d : Nat} {st : List Value} {h : HH} {Q : Int32 → HH → Prop} {a0 a1 a2 : Value} {x : Int32}  (kk : E X d LW_law 1174 [a0, a1, a2, .int x] (.int x :: st) h Q) : E X d LW_law 1173 [a0, a1, a2, .int x] st h Q := Ev.iload_n (by decide +kernel : decode LW_law.2.1 1173 = .ok (.iload_n 3, 1)) rfl rfl kk
set_option maxRecDepth 20000 in
theorem LW_law_1174 {X : SX} {d : Nat} {L : List Value} {st : List Value} {h : HH} {Q : Int32 → HH → Prop}   (kk : E X d LW_law 1175 L (.int 1 :: st) h Q) : E X d LW_law 1174 L st h Q := Ev.iconst (by decide +kernel : decode LW_law.2.1 1174 = .ok (.iconst 1, 1)) (by decide) kk
set_option maxRecDepth 20000 in
theorem LW_law_1175 {X : SX} {d : Nat} {L : List Value} {st : List Value} {h : HH} {Q : Int32 → HH → Prop} {x z : Int32}  (kk : E X d LW_law 1176 L (.int (x + z) :: st) h Q) : E X d LW_law 1175 L (.int z :: .int x :: st) h Q := Ev.iadd (by decide +kernel : decode LW_law.2.1 1175 = .ok (.iadd, 1)) kk
set_option maxRecDepth 20000 in
theorem LW_law_1176 {X : SX} {d : Nat} {L : List Value} {st : List Value} {h : HH} {Q : Int32 → HH → Prop} {i : Int32} (hi : vp_in i X.1) (kk : E X d LW_law 1177 L (.int (X.2 i.toNatClampNeg) :: st) h Q) : E X d LW_law 1176 L (.int i :: .ref 1003 :: st) h Q := Ev.tScript (by decide +kernel : decode LW_law.2.1 1176 = .ok (.iaload, 1)) hi kk
set_option maxRecDepth 20000 in
theorem LW_law_1177 {X : SX} {d : Nat} {L : List Value} {st : List Value} {h : HH} {Q : Int32 → HH → Prop} {b0 : Int32}   (hc : (st.map (fun v => v.category)).sum ≤ 8) (kk : E X d FC_count 0 [.ref 0, .int b0] [] h (fun x h' => E X (d + 1) LW_law 1180 L (.int x :: st) h' Q)) : E X (d + 1) LW_law 1177 L (.int b0 :: .ref 0 :: st) h Q := E.callVi (n := 1) (ix := 119) (args := [.int b0]) (by decide +kernel : decode LW_law.2.1 1177 = .ok (.invokevirtual 119, 3)) FC_count_ok rfl rfl rfl wd_720 wd_721 wd_722 rfl FC_count_ds (Nat.le_of_ble_eq_true rfl) hc (by decide) kk
set_option maxRecDepth 20000 in
theorem LW_law_1180 {X : SX} {d : Nat} {st : List Value} {h : HH} {Q : Int32 → HH → Prop} {a0 a1 a3 : Value}   (kk : E X d LW_law 1181 [a0, a1, .ref 57, a3] (.ref 57 :: st) h Q) : E X d LW_law 1180 [a0, a1, .ref 57, a3] st h Q := Ev.aload_n (by decide +kernel : decode LW_law.2.1 1180 = .ok (.aload_n 2, 1)) rfl rfl kk
set_option maxRecDepth 20000 in
theorem LW_law_1181 {X : SX} {d : Nat} {st : List Value} {h : HH} {Q : Int32 → HH → Prop} {a1 a2 a3 : Value}   (kk : E X d LW_law 1182 [.ref 1003, a1, a2, a3] (.ref 1003 :: st) h Q) : E X d LW_law 1181 [.ref 1003, a1, a2, a3] st h Q := Ev.aload_n (by decide +kernel : decode LW_law.2.1 1181 = .ok (.aload_n 0, 1)) rfl rfl kk
set_option maxRecDepth 20000 in
theorem LW_law_1182 {X : SX} {d : Nat} {st : List Value} {h : HH} {Q : Int32 → HH → Prop} {a0 a1 a2 : Value} {x : Int32}  (kk : E X d LW_law 1183 [a0, a1, a2, .int x] (.int x :: st) h Q) : E X d LW_law 1182 [a0, a1, a2, .int x] st h Q := Ev.iload_n (by decide +kernel : decode LW_law.2.1 1182 = .ok (.iload_n 3, 1)) rfl rfl kk
set_option maxRecDepth 20000 in
theorem LW_law_1183 {X : SX} {d : Nat} {L : List Value} {st : List Value} {h : HH} {Q : Int32 → HH → Prop}   (kk : E X d LW_law 1184 L (.int 1 :: st) h Q) : E X d LW_law 1183 L st h Q := Ev.iconst (by decide +kernel : decode LW_law.2.1 1183 = .ok (.iconst 1, 1)) (by decide) kk
set_option maxRecDepth 20000 in
theorem LW_law_1184 {X : SX} {d : Nat} {L : List Value} {st : List Value} {h : HH} {Q : Int32 → HH → Prop} {x z : Int32}  (kk : E X d LW_law 1185 L (.int (x + z) :: st) h Q) : E X d LW_law 1184 L (.int z :: .int x :: st) h Q := Ev.iadd (by decide +kernel : decode LW_law.2.1 1184 = .ok (.iadd, 1)) kk
set_option maxRecDepth 20000 in
theorem LW_law_1185 {X : SX} {d : Nat} {L : List Value} {st : List Value} {h : HH} {Q : Int32 → HH → Prop} {i : Int32} (hi : vp_in i X.1) (kk : E X d LW_law 1186 L (.int (X.2 i.toNatClampNeg) :: st) h Q) : E X d LW_law 1185 L (.int i :: .ref 1003 :: st) h Q := Ev.tScript (by decide +kernel : decode LW_law.2.1 1185 = .ok (.iaload, 1)) hi kk
set_option maxRecDepth 20000 in
theorem LW_law_1186 {X : SX} {d : Nat} {L : List Value} {st : List Value} {h : HH} {Q : Int32 → HH → Prop} {b0 : Int32}   (hc : (st.map (fun v => v.category)).sum ≤ 8) (kk : E X d FM_count 0 [.ref 57, .int b0] [] h (fun x h' => E X (d + 1) LW_law 1189 L (.int x :: st) h' Q)) : E X (d + 1) LW_law 1186 L (.int b0 :: .ref 57 :: st) h Q := E.callVi (n := 1) (ix := 122) (args := [.int b0]) (by decide +kernel : decode LW_law.2.1 1186 = .ok (.invokevirtual 122, 3)) FM_count_ok rfl rfl rfl wd_1263 wd_1264 wd_1265 rfl FM_count_ds (Nat.le_of_ble_eq_true rfl) hc (by decide) kk
set_option maxRecDepth 20000 in
theorem LW_law_1189 {X : SX} {d : Nat} {L : List Value} {st : List Value} {h : HH} {Q : Int32 → HH → Prop} {x z : Int32}  (kt : x = z → E X d LW_law 1477 L st h Q) (kf : ¬ x = z → E X d LW_law 1192 L st h Q) : E X d LW_law 1189 L (.int z :: .int x :: st) h Q := Ev.icmp_eq (tgt := 1477) (by decide +kernel : decode LW_law.2.1 1189 = .ok (.if_icmp .eq 288, 3)) (by decide) kt kf
set_option maxRecDepth 20000 in
theorem LW_law_1192 {X : SX} {d : Nat} {L : List Value} {st : List Value} {h : HH} {Q : Int32 → HH → Prop}   (kk : E X d LW_law 1193 L (.int 0 :: st) h Q) : E X d LW_law 1192 L st h Q := Ev.iconst (by decide +kernel : decode LW_law.2.1 1192 = .ok (.iconst 0, 1)) (by decide) kk
set_option maxRecDepth 20000 in
theorem LW_law_1193 {X : SX} {d : Nat} {L : List Value} {h : HH} {Q : Int32 → HH → Prop} {x : Int32} (hb : narrow .boolean (.int x) = .int x) (hq : Q x h)  : E X d LW_law 1193 L [.int x] h Q := Ev.ireturn (by decide +kernel : decode LW_law.2.1 1193 = .ok (.ireturn, 1)) rfl hb ⟨rfl, hq⟩
set_option maxRecDepth 20000 in
theorem LW_law_1194 {X : SX} {d : Nat} {st : List Value} {h : HH} {Q : Int32 → HH → Prop} {a0 a2 a3 : Value}   (kk : E X d LW_law 1195 [a0, .ref 0, a2, a3] (.ref 0 :: st) h Q) : E X d LW_law 1194 [a0, .ref 0, a2, a3] st h Q := Ev.aload_n (by decide +kernel : decode LW_law.2.1 1194 = .ok (.aload_n 1, 1)) rfl rfl kk
set_option maxRecDepth 20000 in
theorem LW_law_1195 {X : SX} {d : Nat} {st : List Value} {h : HH} {Q : Int32 → HH → Prop} {a1 a2 a3 : Value}   (kk : E X d LW_law 1196 [.ref 1003, a1, a2, a3] (.ref 1003 :: st) h Q) : E X d LW_law 1195 [.ref 1003, a1, a2, a3] st h Q := Ev.aload_n (by decide +kernel : decode LW_law.2.1 1195 = .ok (.aload_n 0, 1)) rfl rfl kk
set_option maxRecDepth 20000 in
theorem LW_law_1196 {X : SX} {d : Nat} {st : List Value} {h : HH} {Q : Int32 → HH → Prop} {a0 a1 a2 : Value} {x : Int32}  (kk : E X d LW_law 1197 [a0, a1, a2, .int x] (.int x :: st) h Q) : E X d LW_law 1196 [a0, a1, a2, .int x] st h Q := Ev.iload_n (by decide +kernel : decode LW_law.2.1 1196 = .ok (.iload_n 3, 1)) rfl rfl kk
set_option maxRecDepth 20000 in
theorem LW_law_1197 {X : SX} {d : Nat} {L : List Value} {st : List Value} {h : HH} {Q : Int32 → HH → Prop}   (kk : E X d LW_law 1198 L (.int 1 :: st) h Q) : E X d LW_law 1197 L st h Q := Ev.iconst (by decide +kernel : decode LW_law.2.1 1197 = .ok (.iconst 1, 1)) (by decide) kk
set_option maxRecDepth 20000 in
theorem LW_law_1198 {X : SX} {d : Nat} {L : List Value} {st : List Value} {h : HH} {Q : Int32 → HH → Prop} {x z : Int32}  (kk : E X d LW_law 1199 L (.int (x + z) :: st) h Q) : E X d LW_law 1198 L (.int z :: .int x :: st) h Q := Ev.iadd (by decide +kernel : decode LW_law.2.1 1198 = .ok (.iadd, 1)) kk
set_option maxRecDepth 20000 in
theorem LW_law_1199 {X : SX} {d : Nat} {L : List Value} {st : List Value} {h : HH} {Q : Int32 → HH → Prop} {i : Int32} (hi : vp_in i X.1) (kk : E X d LW_law 1200 L (.int (X.2 i.toNatClampNeg) :: st) h Q) : E X d LW_law 1199 L (.int i :: .ref 1003 :: st) h Q := Ev.tScript (by decide +kernel : decode LW_law.2.1 1199 = .ok (.iaload, 1)) hi kk
set_option maxRecDepth 20000 in
theorem LW_law_1200 {X : SX} {d : Nat} {st : List Value} {h : HH} {Q : Int32 → HH → Prop} {a1 a2 a3 : Value}   (kk : E X d LW_law 1201 [.ref 1003, a1, a2, a3] (.ref 1003 :: st) h Q) : E X d LW_law 1200 [.ref 1003, a1, a2, a3] st h Q := Ev.aload_n (by decide +kernel : decode LW_law.2.1 1200 = .ok (.aload_n 0, 1)) rfl rfl kk
set_option maxRecDepth 20000 in
theorem LW_law_1201 {X : SX} {d : Nat} {st : List Value} {h : HH} {Q : Int32 → HH → Prop} {a0 a1 a2 : Value} {x : Int32}  (kk : E X d LW_law 1202 [a0, a1, a2, .int x] (.int x :: st) h Q) : E X d LW_law 1201 [a0, a1, a2, .int x] st h Q := Ev.iload_n (by decide +kernel : decode LW_law.2.1 1201 = .ok (.iload_n 3, 1)) rfl rfl kk
set_option maxRecDepth 20000 in
theorem LW_law_1202 {X : SX} {d : Nat} {L : List Value} {st : List Value} {h : HH} {Q : Int32 → HH → Prop}   (kk : E X d LW_law 1203 L (.int 2 :: st) h Q) : E X d LW_law 1202 L st h Q := Ev.iconst (by decide +kernel : decode LW_law.2.1 1202 = .ok (.iconst 2, 1)) (by decide) kk
set_option maxRecDepth 20000 in
theorem LW_law_1203 {X : SX} {d : Nat} {L : List Value} {st : List Value} {h : HH} {Q : Int32 → HH → Prop} {x z : Int32}  (kk : E X d LW_law 1204 L (.int (x + z) :: st) h Q) : E X d LW_law 1203 L (.int z :: .int x :: st) h Q := Ev.iadd (by decide +kernel : decode LW_law.2.1 1203 = .ok (.iadd, 1)) kk
set_option maxRecDepth 20000 in
theorem LW_law_1204 {X : SX} {d : Nat} {L : List Value} {st : List Value} {h : HH} {Q : Int32 → HH → Prop} {i : Int32} (hi : vp_in i X.1) (kk : E X d LW_law 1205 L (.int (X.2 i.toNatClampNeg) :: st) h Q) : E X d LW_law 1204 L (.int i :: .ref 1003 :: st) h Q := Ev.tScript (by decide +kernel : decode LW_law.2.1 1204 = .ok (.iaload, 1)) hi kk
set_option maxRecDepth 20000 in
theorem LW_law_1205 {X : SX} {d : Nat} {st : List Value} {h : HH} {Q : Int32 → HH → Prop} {a1 a2 a3 : Value}   (kk : E X d LW_law 1206 [.ref 1003, a1, a2, a3] (.ref 1003 :: st) h Q) : E X d LW_law 1205 [.ref 1003, a1, a2, a3] st h Q := Ev.aload_n (by decide +kernel : decode LW_law.2.1 1205 = .ok (.aload_n 0, 1)) rfl rfl kk
set_option maxRecDepth 20000 in
theorem LW_law_1206 {X : SX} {d : Nat} {st : List Value} {h : HH} {Q : Int32 → HH → Prop} {a0 a1 a2 : Value} {x : Int32}  (kk : E X d LW_law 1207 [a0, a1, a2, .int x] (.int x :: st) h Q) : E X d LW_law 1206 [a0, a1, a2, .int x] st h Q := Ev.iload_n (by decide +kernel : decode LW_law.2.1 1206 = .ok (.iload_n 3, 1)) rfl rfl kk
set_option maxRecDepth 20000 in
theorem LW_law_1207 {X : SX} {d : Nat} {L : List Value} {st : List Value} {h : HH} {Q : Int32 → HH → Prop}   (kk : E X d LW_law 1208 L (.int 3 :: st) h Q) : E X d LW_law 1207 L st h Q := Ev.iconst (by decide +kernel : decode LW_law.2.1 1207 = .ok (.iconst 3, 1)) (by decide) kk
set_option maxRecDepth 20000 in
theorem LW_law_1208 {X : SX} {d : Nat} {L : List Value} {st : List Value} {h : HH} {Q : Int32 → HH → Prop} {x z : Int32}  (kk : E X d LW_law 1209 L (.int (x + z) :: st) h Q) : E X d LW_law 1208 L (.int z :: .int x :: st) h Q := Ev.iadd (by decide +kernel : decode LW_law.2.1 1208 = .ok (.iadd, 1)) kk
set_option maxRecDepth 20000 in
theorem LW_law_1209 {X : SX} {d : Nat} {L : List Value} {st : List Value} {h : HH} {Q : Int32 → HH → Prop} {i : Int32} (hi : vp_in i X.1) (kk : E X d LW_law 1210 L (.int (X.2 i.toNatClampNeg) :: st) h Q) : E X d LW_law 1209 L (.int i :: .ref 1003 :: st) h Q := Ev.tScript (by decide +kernel : decode LW_law.2.1 1209 = .ok (.iaload, 1)) hi kk
set_option maxRecDepth 20000 in
theorem LW_law_1210 {X : SX} {d : Nat} {L : List Value} {st : List Value} {h : HH} {Q : Int32 → HH → Prop} {b0 : Int32} {b1 : Int32} {b2 : Int32}   (hc : (st.map (fun v => v.category)).sum ≤ 8) (kk : E X d FC_act 0 [.ref 0, .int b0, .int b1, .int b2] [] h (fun x h' => E X (d + 1) LW_law 1213 L (.int x :: st) h' Q)) : E X (d + 1) LW_law 1210 L (.int b2 :: .int b1 :: .int b0 :: .ref 0 :: st) h Q := E.callVi (n := 3) (ix := 123) (args := [.int b0, .int b1, .int b2]) (by decide +kernel : decode LW_law.2.1 1210 = .ok (.invokevirtual 123, 3)) FC_act_ok rfl rfl rfl wd_724 wd_725 wd_726 rfl FC_act_ds (Nat.le_of_ble_eq_true rfl) hc (by decide) kk
set_option maxRecDepth 20000 in
theorem LW_law_1213 {X : SX} {d : Nat} {st : List Value} {h : HH} {Q : Int32 → HH → Prop} {a0 a1 a3 : Value}   (kk : E X d LW_law 1214 [a0, a1, .ref 57, a3] (.ref 57 :: st) h Q) : E X d LW_law 1213 [a0, a1, .ref 57, a3] st h Q := Ev.aload_n (by decide +kernel : decode LW_law.2.1 1213 = .ok (.aload_n 2, 1)) rfl rfl kk
set_option maxRecDepth 20000 in
theorem LW_law_1214 {X : SX} {d : Nat} {st : List Value} {h : HH} {Q : Int32 → HH → Prop} {a1 a2 a3 : Value}   (kk : E X d LW_law 1215 [.ref 1003, a1, a2, a3] (.ref 1003 :: st) h Q) : E X d LW_law 1214 [.ref 1003, a1, a2, a3] st h Q := Ev.aload_n (by decide +kernel : decode LW_law.2.1 1214 = .ok (.aload_n 0, 1)) rfl rfl kk
set_option maxRecDepth 20000 in
theorem LW_law_1215 {X : SX} {d : Nat} {st : List Value} {h : HH} {Q : Int32 → HH → Prop} {a0 a1 a2 : Value} {x : Int32}  (kk : E X d LW_law 1216 [a0, a1, a2, .int x] (.int x :: st) h Q) : E X d LW_law 1215 [a0, a1, a2, .int x] st h Q := Ev.iload_n (by decide +kernel : decode LW_law.2.1 1215 = .ok (.iload_n 3, 1)) rfl rfl kk
set_option maxRecDepth 20000 in
theorem LW_law_1216 {X : SX} {d : Nat} {L : List Value} {st : List Value} {h : HH} {Q : Int32 → HH → Prop}   (kk : E X d LW_law 1217 L (.int 1 :: st) h Q) : E X d LW_law 1216 L st h Q := Ev.iconst (by decide +kernel : decode LW_law.2.1 1216 = .ok (.iconst 1, 1)) (by decide) kk
set_option maxRecDepth 20000 in
theorem LW_law_1217 {X : SX} {d : Nat} {L : List Value} {st : List Value} {h : HH} {Q : Int32 → HH → Prop} {x z : Int32}  (kk : E X d LW_law 1218 L (.int (x + z) :: st) h Q) : E X d LW_law 1217 L (.int z :: .int x :: st) h Q := Ev.iadd (by decide +kernel : decode LW_law.2.1 1217 = .ok (.iadd, 1)) kk
set_option maxRecDepth 20000 in
theorem LW_law_1218 {X : SX} {d : Nat} {L : List Value} {st : List Value} {h : HH} {Q : Int32 → HH → Prop} {i : Int32} (hi : vp_in i X.1) (kk : E X d LW_law 1219 L (.int (X.2 i.toNatClampNeg) :: st) h Q) : E X d LW_law 1218 L (.int i :: .ref 1003 :: st) h Q := Ev.tScript (by decide +kernel : decode LW_law.2.1 1218 = .ok (.iaload, 1)) hi kk
set_option maxRecDepth 20000 in
theorem LW_law_1219 {X : SX} {d : Nat} {st : List Value} {h : HH} {Q : Int32 → HH → Prop} {a1 a2 a3 : Value}   (kk : E X d LW_law 1220 [.ref 1003, a1, a2, a3] (.ref 1003 :: st) h Q) : E X d LW_law 1219 [.ref 1003, a1, a2, a3] st h Q := Ev.aload_n (by decide +kernel : decode LW_law.2.1 1219 = .ok (.aload_n 0, 1)) rfl rfl kk
set_option maxRecDepth 20000 in
theorem LW_law_1220 {X : SX} {d : Nat} {st : List Value} {h : HH} {Q : Int32 → HH → Prop} {a0 a1 a2 : Value} {x : Int32}  (kk : E X d LW_law 1221 [a0, a1, a2, .int x] (.int x :: st) h Q) : E X d LW_law 1220 [a0, a1, a2, .int x] st h Q := Ev.iload_n (by decide +kernel : decode LW_law.2.1 1220 = .ok (.iload_n 3, 1)) rfl rfl kk
set_option maxRecDepth 20000 in
theorem LW_law_1221 {X : SX} {d : Nat} {L : List Value} {st : List Value} {h : HH} {Q : Int32 → HH → Prop}   (kk : E X d LW_law 1222 L (.int 2 :: st) h Q) : E X d LW_law 1221 L st h Q := Ev.iconst (by decide +kernel : decode LW_law.2.1 1221 = .ok (.iconst 2, 1)) (by decide) kk
set_option maxRecDepth 20000 in
theorem LW_law_1222 {X : SX} {d : Nat} {L : List Value} {st : List Value} {h : HH} {Q : Int32 → HH → Prop} {x z : Int32}  (kk : E X d LW_law 1223 L (.int (x + z) :: st) h Q) : E X d LW_law 1222 L (.int z :: .int x :: st) h Q := Ev.iadd (by decide +kernel : decode LW_law.2.1 1222 = .ok (.iadd, 1)) kk
set_option maxRecDepth 20000 in
theorem LW_law_1223 {X : SX} {d : Nat} {L : List Value} {st : List Value} {h : HH} {Q : Int32 → HH → Prop} {i : Int32} (hi : vp_in i X.1) (kk : E X d LW_law 1224 L (.int (X.2 i.toNatClampNeg) :: st) h Q) : E X d LW_law 1223 L (.int i :: .ref 1003 :: st) h Q := Ev.tScript (by decide +kernel : decode LW_law.2.1 1223 = .ok (.iaload, 1)) hi kk
set_option maxRecDepth 20000 in
theorem LW_law_1224 {X : SX} {d : Nat} {st : List Value} {h : HH} {Q : Int32 → HH → Prop} {a1 a2 a3 : Value}   (kk : E X d LW_law 1225 [.ref 1003, a1, a2, a3] (.ref 1003 :: st) h Q) : E X d LW_law 1224 [.ref 1003, a1, a2, a3] st h Q := Ev.aload_n (by decide +kernel : decode LW_law.2.1 1224 = .ok (.aload_n 0, 1)) rfl rfl kk
set_option maxRecDepth 20000 in
theorem LW_law_1225 {X : SX} {d : Nat} {st : List Value} {h : HH} {Q : Int32 → HH → Prop} {a0 a1 a2 : Value} {x : Int32}  (kk : E X d LW_law 1226 [a0, a1, a2, .int x] (.int x :: st) h Q) : E X d LW_law 1225 [a0, a1, a2, .int x] st h Q := Ev.iload_n (by decide +kernel : decode LW_law.2.1 1225 = .ok (.iload_n 3, 1)) rfl rfl kk
set_option maxRecDepth 20000 in
theorem LW_law_1226 {X : SX} {d : Nat} {L : List Value} {st : List Value} {h : HH} {Q : Int32 → HH → Prop}   (kk : E X d LW_law 1227 L (.int 3 :: st) h Q) : E X d LW_law 1226 L st h Q := Ev.iconst (by decide +kernel : decode LW_law.2.1 1226 = .ok (.iconst 3, 1)) (by decide) kk
set_option maxRecDepth 20000 in
theorem LW_law_1227 {X : SX} {d : Nat} {L : List Value} {st : List Value} {h : HH} {Q : Int32 → HH → Prop} {x z : Int32}  (kk : E X d LW_law 1228 L (.int (x + z) :: st) h Q) : E X d LW_law 1227 L (.int z :: .int x :: st) h Q := Ev.iadd (by decide +kernel : decode LW_law.2.1 1227 = .ok (.iadd, 1)) kk
set_option maxRecDepth 20000 in
theorem LW_law_1228 {X : SX} {d : Nat} {L : List Value} {st : List Value} {h : HH} {Q : Int32 → HH → Prop} {i : Int32} (hi : vp_in i X.1) (kk : E X d LW_law 1229 L (.int (X.2 i.toNatClampNeg) :: st) h Q) : E X d LW_law 1228 L (.int i :: .ref 1003 :: st) h Q := Ev.tScript (by decide +kernel : decode LW_law.2.1 1228 = .ok (.iaload, 1)) hi kk
set_option maxRecDepth 20000 in
theorem LW_law_1229 {X : SX} {d : Nat} {L : List Value} {st : List Value} {h : HH} {Q : Int32 → HH → Prop} {b0 : Int32} {b1 : Int32} {b2 : Int32}   (hc : (st.map (fun v => v.category)).sum ≤ 8) (kk : E X d FM_act 0 [.ref 57, .int b0, .int b1, .int b2] [] h (fun x h' => E X (d + 1) LW_law 1232 L (.int x :: st) h' Q)) : E X (d + 1) LW_law 1229 L (.int b2 :: .int b1 :: .int b0 :: .ref 57 :: st) h Q := E.callVi (n := 3) (ix := 126) (args := [.int b0, .int b1, .int b2]) (by decide +kernel : decode LW_law.2.1 1229 = .ok (.invokevirtual 126, 3)) FM_act_ok rfl rfl rfl wd_1267 wd_1268 wd_1269 rfl FM_act_ds (Nat.le_of_ble_eq_true rfl) hc (by decide) kk
set_option maxRecDepth 20000 in
theorem LW_law_1232 {X : SX} {d : Nat} {L : List Value} {st : List Value} {h : HH} {Q : Int32 → HH → Prop} {x z : Int32}  (kt : x = z → E X d LW_law 1477 L st h Q) (kf : ¬ x = z → E X d LW_law 1235 L st h Q) : E X d LW_law 1232 L (.int z :: .int x :: st) h Q := Ev.icmp_eq (tgt := 1477) (by decide +kernel : decode LW_law.2.1 1232 = .ok (.if_icmp .eq 245, 3)) (by decide) kt kf
set_option maxRecDepth 20000 in
theorem LW_law_1235 {X : SX} {d : Nat} {L : List Value} {st : List Value} {h : HH} {Q : Int32 → HH → Prop}   (kk : E X d LW_law 1236 L (.int 0 :: st) h Q) : E X d LW_law 1235 L st h Q := Ev.iconst (by decide +kernel : decode LW_law.2.1 1235 = .ok (.iconst 0, 1)) (by decide) kk
set_option maxRecDepth 20000 in
theorem LW_law_1236 {X : SX} {d : Nat} {L : List Value} {h : HH} {Q : Int32 → HH → Prop} {x : Int32} (hb : narrow .boolean (.int x) = .int x) (hq : Q x h)  : E X d LW_law 1236 L [.int x] h Q := Ev.ireturn (by decide +kernel : decode LW_law.2.1 1236 = .ok (.ireturn, 1)) rfl hb ⟨rfl, hq⟩
set_option maxRecDepth 20000 in
theorem LW_law_1237 {X : SX} {d : Nat} {st : List Value} {h : HH} {Q : Int32 → HH → Prop} {a0 a2 a3 : Value}   (kk : E X d LW_law 1238 [a0, .ref 0, a2, a3] (.ref 0 :: st) h Q) : E X d LW_law 1237 [a0, .ref 0, a2, a3] st h Q := Ev.aload_n (by decide +kernel : decode LW_law.2.1 1237 = .ok (.aload_n 1, 1)) rfl rfl kk
set_option maxRecDepth 20000 in
theorem LW_law_1238 {X : SX} {d : Nat} {st : List Value} {h : HH} {Q : Int32 → HH → Prop} {a1 a2 a3 : Value}   (kk : E X d LW_law 1239 [.ref 1003, a1, a2, a3] (.ref 1003 :: st) h Q) : E X d LW_law 1238 [.ref 1003, a1, a2, a3] st h Q := Ev.aload_n (by decide +kernel : decode LW_law.2.1 1238 = .ok (.aload_n 0, 1)) rfl rfl kk
set_option maxRecDepth 20000 in
theorem LW_law_1239 {X : SX} {d : Nat} {st : List Value} {h : HH} {Q : Int32 → HH → Prop} {a0 a1 a2 : Value} {x : Int32}  (kk : E X d LW_law 1240 [a0, a1, a2, .int x] (.int x :: st) h Q) : E X d LW_law 1239 [a0, a1, a2, .int x] st h Q := Ev.iload_n (by decide +kernel : decode LW_law.2.1 1239 = .ok (.iload_n 3, 1)) rfl rfl kk
set_option maxRecDepth 20000 in
theorem LW_law_1240 {X : SX} {d : Nat} {L : List Value} {st : List Value} {h : HH} {Q : Int32 → HH → Prop}   (kk : E X d LW_law 1241 L (.int 1 :: st) h Q) : E X d LW_law 1240 L st h Q := Ev.iconst (by decide +kernel : decode LW_law.2.1 1240 = .ok (.iconst 1, 1)) (by decide) kk
set_option maxRecDepth 20000 in
theorem LW_law_1241 {X : SX} {d : Nat} {L : List Value} {st : List Value} {h : HH} {Q : Int32 → HH → Prop} {x z : Int32}  (kk : E X d LW_law 1242 L (.int (x + z) :: st) h Q) : E X d LW_law 1241 L (.int z :: .int x :: st) h Q := Ev.iadd (by decide +kernel : decode LW_law.2.1 1241 = .ok (.iadd, 1)) kk
set_option maxRecDepth 20000 in
theorem LW_law_1242 {X : SX} {d : Nat} {L : List Value} {st : List Value} {h : HH} {Q : Int32 → HH → Prop} {i : Int32} (hi : vp_in i X.1) (kk : E X d LW_law 1243 L (.int (X.2 i.toNatClampNeg) :: st) h Q) : E X d LW_law 1242 L (.int i :: .ref 1003 :: st) h Q := Ev.tScript (by decide +kernel : decode LW_law.2.1 1242 = .ok (.iaload, 1)) hi kk
set_option maxRecDepth 20000 in
theorem LW_law_1243 {X : SX} {d : Nat} {L : List Value} {st : List Value} {h : HH} {Q : Int32 → HH → Prop} {b0 : Int32}   (hc : (st.map (fun v => v.category)).sum ≤ 8) (kk : E X d FC_trace 0 [.ref 0, .int b0] [] h (fun x h' => E X (d + 1) LW_law 1246 L (.int x :: st) h' Q)) : E X (d + 1) LW_law 1243 L (.int b0 :: .ref 0 :: st) h Q := E.callVi (n := 1) (ix := 127) (args := [.int b0]) (by decide +kernel : decode LW_law.2.1 1243 = .ok (.invokevirtual 127, 3)) FC_trace_ok rfl rfl rfl wd_754 wd_755 wd_756 rfl FC_trace_ds (Nat.le_of_ble_eq_true rfl) hc (by decide) kk
set_option maxRecDepth 20000 in
theorem LW_law_1246 {X : SX} {d : Nat} {st : List Value} {h : HH} {Q : Int32 → HH → Prop} {a0 a1 a3 : Value}   (kk : E X d LW_law 1247 [a0, a1, .ref 57, a3] (.ref 57 :: st) h Q) : E X d LW_law 1246 [a0, a1, .ref 57, a3] st h Q := Ev.aload_n (by decide +kernel : decode LW_law.2.1 1246 = .ok (.aload_n 2, 1)) rfl rfl kk
set_option maxRecDepth 20000 in
theorem LW_law_1247 {X : SX} {d : Nat} {st : List Value} {h : HH} {Q : Int32 → HH → Prop} {a1 a2 a3 : Value}   (kk : E X d LW_law 1248 [.ref 1003, a1, a2, a3] (.ref 1003 :: st) h Q) : E X d LW_law 1247 [.ref 1003, a1, a2, a3] st h Q := Ev.aload_n (by decide +kernel : decode LW_law.2.1 1247 = .ok (.aload_n 0, 1)) rfl rfl kk
set_option maxRecDepth 20000 in
theorem LW_law_1248 {X : SX} {d : Nat} {st : List Value} {h : HH} {Q : Int32 → HH → Prop} {a0 a1 a2 : Value} {x : Int32}  (kk : E X d LW_law 1249 [a0, a1, a2, .int x] (.int x :: st) h Q) : E X d LW_law 1248 [a0, a1, a2, .int x] st h Q := Ev.iload_n (by decide +kernel : decode LW_law.2.1 1248 = .ok (.iload_n 3, 1)) rfl rfl kk
set_option maxRecDepth 20000 in
theorem LW_law_1249 {X : SX} {d : Nat} {L : List Value} {st : List Value} {h : HH} {Q : Int32 → HH → Prop}   (kk : E X d LW_law 1250 L (.int 1 :: st) h Q) : E X d LW_law 1249 L st h Q := Ev.iconst (by decide +kernel : decode LW_law.2.1 1249 = .ok (.iconst 1, 1)) (by decide) kk
set_option maxRecDepth 20000 in
theorem LW_law_1250 {X : SX} {d : Nat} {L : List Value} {st : List Value} {h : HH} {Q : Int32 → HH → Prop} {x z : Int32}  (kk : E X d LW_law 1251 L (.int (x + z) :: st) h Q) : E X d LW_law 1250 L (.int z :: .int x :: st) h Q := Ev.iadd (by decide +kernel : decode LW_law.2.1 1250 = .ok (.iadd, 1)) kk
set_option maxRecDepth 20000 in
theorem LW_law_1251 {X : SX} {d : Nat} {L : List Value} {st : List Value} {h : HH} {Q : Int32 → HH → Prop} {i : Int32} (hi : vp_in i X.1) (kk : E X d LW_law 1252 L (.int (X.2 i.toNatClampNeg) :: st) h Q) : E X d LW_law 1251 L (.int i :: .ref 1003 :: st) h Q := Ev.tScript (by decide +kernel : decode LW_law.2.1 1251 = .ok (.iaload, 1)) hi kk
set_option maxRecDepth 20000 in
theorem LW_law_1252 {X : SX} {d : Nat} {L : List Value} {st : List Value} {h : HH} {Q : Int32 → HH → Prop} {b0 : Int32}   (hc : (st.map (fun v => v.category)).sum ≤ 8) (kk : E X d FM_trace 0 [.ref 57, .int b0] [] h (fun x h' => E X (d + 1) LW_law 1255 L (.int x :: st) h' Q)) : E X (d + 1) LW_law 1252 L (.int b0 :: .ref 57 :: st) h Q := E.callVi (n := 1) (ix := 130) (args := [.int b0]) (by decide +kernel : decode LW_law.2.1 1252 = .ok (.invokevirtual 130, 3)) FM_trace_ok rfl rfl rfl wd_1315 wd_1316 wd_1317 rfl FM_trace_ds (Nat.le_of_ble_eq_true rfl) hc (by decide) kk
set_option maxRecDepth 20000 in
theorem LW_law_1255 {X : SX} {d : Nat} {L : List Value} {st : List Value} {h : HH} {Q : Int32 → HH → Prop} {x z : Int32}  (kt : x = z → E X d LW_law 1477 L st h Q) (kf : ¬ x = z → E X d LW_law 1258 L st h Q) : E X d LW_law 1255 L (.int z :: .int x :: st) h Q := Ev.icmp_eq (tgt := 1477) (by decide +kernel : decode LW_law.2.1 1255 = .ok (.if_icmp .eq 222, 3)) (by decide) kt kf
set_option maxRecDepth 20000 in
theorem LW_law_1258 {X : SX} {d : Nat} {L : List Value} {st : List Value} {h : HH} {Q : Int32 → HH → Prop}   (kk : E X d LW_law 1259 L (.int 0 :: st) h Q) : E X d LW_law 1258 L st h Q := Ev.iconst (by decide +kernel : decode LW_law.2.1 1258 = .ok (.iconst 0, 1)) (by decide) kk
set_option maxRecDepth 20000 in
theorem LW_law_1259 {X : SX} {d : Nat} {L : List Value} {h : HH} {Q : Int32 → HH → Prop} {x : Int32} (hb : narrow .boolean (.int x) = .int x) (hq : Q x h)  : E X d LW_law 1259 L [.int x] h Q := Ev.ireturn (by decide +kernel : decode LW_law.2.1 1259 = .ok (.ireturn, 1)) rfl hb ⟨rfl, hq⟩
set_option maxRecDepth 20000 in
theorem LW_law_1260 {X : SX} {d : Nat} {st : List Value} {h : HH} {Q : Int32 → HH → Prop} {a0 a2 a3 : Value}   (kk : E X d LW_law 1261 [a0, .ref 0, a2, a3] (.ref 0 :: st) h Q) : E X d LW_law 1260 [a0, .ref 0, a2, a3] st h Q := Ev.aload_n (by decide +kernel : decode LW_law.2.1 1260 = .ok (.aload_n 1, 1)) rfl rfl kk
set_option maxRecDepth 20000 in
theorem LW_law_1261 {X : SX} {d : Nat} {st : List Value} {h : HH} {Q : Int32 → HH → Prop} {a1 a2 a3 : Value}   (kk : E X d LW_law 1262 [.ref 1003, a1, a2, a3] (.ref 1003 :: st) h Q) : E X d LW_law 1261 [.ref 1003, a1, a2, a3] st h Q := Ev.aload_n (by decide +kernel : decode LW_law.2.1 1261 = .ok (.aload_n 0, 1)) rfl rfl kk
set_option maxRecDepth 20000 in
theorem LW_law_1262 {X : SX} {d : Nat} {st : List Value} {h : HH} {Q : Int32 → HH → Prop} {a0 a1 a2 : Value} {x : Int32}  (kk : E X d LW_law 1263 [a0, a1, a2, .int x] (.int x :: st) h Q) : E X d LW_law 1262 [a0, a1, a2, .int x] st h Q := Ev.iload_n (by decide +kernel : decode LW_law.2.1 1262 = .ok (.iload_n 3, 1)) rfl rfl kk
set_option maxRecDepth 20000 in
theorem LW_law_1263 {X : SX} {d : Nat} {L : List Value} {st : List Value} {h : HH} {Q : Int32 → HH → Prop}   (kk : E X d LW_law 1264 L (.int 1 :: st) h Q) : E X d LW_law 1263 L st h Q := Ev.iconst (by decide +kernel : decode LW_law.2.1 1263 = .ok (.iconst 1, 1)) (by decide) kk
set_option maxRecDepth 20000 in
theorem LW_law_1264 {X : SX} {d : Nat} {L : List Value} {st : List Value} {h : HH} {Q : Int32 → HH → Prop} {x z : Int32}  (kk : E X d LW_law 1265 L (.int (x + z) :: st) h Q) : E X d LW_law 1264 L (.int z :: .int x :: st) h Q := Ev.iadd (by decide +kernel : decode LW_law.2.1 1264 = .ok (.iadd, 1)) kk
set_option maxRecDepth 20000 in
theorem LW_law_1265 {X : SX} {d : Nat} {L : List Value} {st : List Value} {h : HH} {Q : Int32 → HH → Prop} {i : Int32} (hi : vp_in i X.1) (kk : E X d LW_law 1266 L (.int (X.2 i.toNatClampNeg) :: st) h Q) : E X d LW_law 1265 L (.int i :: .ref 1003 :: st) h Q := Ev.tScript (by decide +kernel : decode LW_law.2.1 1265 = .ok (.iaload, 1)) hi kk
set_option maxRecDepth 20000 in
theorem LW_law_1266 {X : SX} {d : Nat} {st : List Value} {h : HH} {Q : Int32 → HH → Prop} {a1 a2 a3 : Value}   (kk : E X d LW_law 1267 [.ref 1003, a1, a2, a3] (.ref 1003 :: st) h Q) : E X d LW_law 1266 [.ref 1003, a1, a2, a3] st h Q := Ev.aload_n (by decide +kernel : decode LW_law.2.1 1266 = .ok (.aload_n 0, 1)) rfl rfl kk
set_option maxRecDepth 20000 in
theorem LW_law_1267 {X : SX} {d : Nat} {st : List Value} {h : HH} {Q : Int32 → HH → Prop} {a0 a1 a2 : Value} {x : Int32}  (kk : E X d LW_law 1268 [a0, a1, a2, .int x] (.int x :: st) h Q) : E X d LW_law 1267 [a0, a1, a2, .int x] st h Q := Ev.iload_n (by decide +kernel : decode LW_law.2.1 1267 = .ok (.iload_n 3, 1)) rfl rfl kk
set_option maxRecDepth 20000 in
theorem LW_law_1268 {X : SX} {d : Nat} {L : List Value} {st : List Value} {h : HH} {Q : Int32 → HH → Prop}   (kk : E X d LW_law 1269 L (.int 2 :: st) h Q) : E X d LW_law 1268 L st h Q := Ev.iconst (by decide +kernel : decode LW_law.2.1 1268 = .ok (.iconst 2, 1)) (by decide) kk
set_option maxRecDepth 20000 in
theorem LW_law_1269 {X : SX} {d : Nat} {L : List Value} {st : List Value} {h : HH} {Q : Int32 → HH → Prop} {x z : Int32}  (kk : E X d LW_law 1270 L (.int (x + z) :: st) h Q) : E X d LW_law 1269 L (.int z :: .int x :: st) h Q := Ev.iadd (by decide +kernel : decode LW_law.2.1 1269 = .ok (.iadd, 1)) kk
set_option maxRecDepth 20000 in
theorem LW_law_1270 {X : SX} {d : Nat} {L : List Value} {st : List Value} {h : HH} {Q : Int32 → HH → Prop} {i : Int32} (hi : vp_in i X.1) (kk : E X d LW_law 1271 L (.int (X.2 i.toNatClampNeg) :: st) h Q) : E X d LW_law 1270 L (.int i :: .ref 1003 :: st) h Q := Ev.tScript (by decide +kernel : decode LW_law.2.1 1270 = .ok (.iaload, 1)) hi kk
set_option maxRecDepth 20000 in
theorem LW_law_1271 {X : SX} {d : Nat} {st : List Value} {h : HH} {Q : Int32 → HH → Prop} {a1 a2 a3 : Value}   (kk : E X d LW_law 1272 [.ref 1003, a1, a2, a3] (.ref 1003 :: st) h Q) : E X d LW_law 1271 [.ref 1003, a1, a2, a3] st h Q := Ev.aload_n (by decide +kernel : decode LW_law.2.1 1271 = .ok (.aload_n 0, 1)) rfl rfl kk
set_option maxRecDepth 20000 in
theorem LW_law_1272 {X : SX} {d : Nat} {st : List Value} {h : HH} {Q : Int32 → HH → Prop} {a0 a1 a2 : Value} {x : Int32}  (kk : E X d LW_law 1273 [a0, a1, a2, .int x] (.int x :: st) h Q) : E X d LW_law 1272 [a0, a1, a2, .int x] st h Q := Ev.iload_n (by decide +kernel : decode LW_law.2.1 1272 = .ok (.iload_n 3, 1)) rfl rfl kk
set_option maxRecDepth 20000 in
theorem LW_law_1273 {X : SX} {d : Nat} {L : List Value} {st : List Value} {h : HH} {Q : Int32 → HH → Prop}   (kk : E X d LW_law 1274 L (.int 3 :: st) h Q) : E X d LW_law 1273 L st h Q := Ev.iconst (by decide +kernel : decode LW_law.2.1 1273 = .ok (.iconst 3, 1)) (by decide) kk
set_option maxRecDepth 20000 in
theorem LW_law_1274 {X : SX} {d : Nat} {L : List Value} {st : List Value} {h : HH} {Q : Int32 → HH → Prop} {x z : Int32}  (kk : E X d LW_law 1275 L (.int (x + z) :: st) h Q) : E X d LW_law 1274 L (.int z :: .int x :: st) h Q := Ev.iadd (by decide +kernel : decode LW_law.2.1 1274 = .ok (.iadd, 1)) kk
set_option maxRecDepth 20000 in
theorem LW_law_1275 {X : SX} {d : Nat} {L : List Value} {st : List Value} {h : HH} {Q : Int32 → HH → Prop} {i : Int32} (hi : vp_in i X.1) (kk : E X d LW_law 1276 L (.int (X.2 i.toNatClampNeg) :: st) h Q) : E X d LW_law 1275 L (.int i :: .ref 1003 :: st) h Q := Ev.tScript (by decide +kernel : decode LW_law.2.1 1275 = .ok (.iaload, 1)) hi kk
set_option maxRecDepth 20000 in
theorem LW_law_1276 {X : SX} {d : Nat} {L : List Value} {st : List Value} {h : HH} {Q : Int32 → HH → Prop} {b0 : Int32} {b1 : Int32} {b2 : Int32}   (hc : (st.map (fun v => v.category)).sum ≤ 8) (kk : E X d FC_sheet 0 [.ref 0, .int b0, .int b1, .int b2, U0] [] h (fun x h' => E X (d + 1) LW_law 1279 L (.int x :: st) h' Q)) : E X (d + 1) LW_law 1276 L (.int b2 :: .int b1 :: .int b0 :: .ref 0 :: st) h Q := E.callVi (n := 3) (ix := 131) (args := [.int b0, .int b1, .int b2]) (by decide +kernel : decode LW_law.2.1 1276 = .ok (.invokevirtual 131, 3)) FC_sheet_ok rfl rfl rfl wd_758 wd_759 wd_760 rfl FC_sheet_ds (Nat.le_of_ble_eq_true rfl) hc (by decide) kk
set_option maxRecDepth 20000 in
theorem LW_law_1279 {X : SX} {d : Nat} {st : List Value} {h : HH} {Q : Int32 → HH → Prop} {a0 a1 a3 : Value}   (kk : E X d LW_law 1280 [a0, a1, .ref 57, a3] (.ref 57 :: st) h Q) : E X d LW_law 1279 [a0, a1, .ref 57, a3] st h Q := Ev.aload_n (by decide +kernel : decode LW_law.2.1 1279 = .ok (.aload_n 2, 1)) rfl rfl kk
set_option maxRecDepth 20000 in
theorem LW_law_1280 {X : SX} {d : Nat} {st : List Value} {h : HH} {Q : Int32 → HH → Prop} {a1 a2 a3 : Value}   (kk : E X d LW_law 1281 [.ref 1003, a1, a2, a3] (.ref 1003 :: st) h Q) : E X d LW_law 1280 [.ref 1003, a1, a2, a3] st h Q := Ev.aload_n (by decide +kernel : decode LW_law.2.1 1280 = .ok (.aload_n 0, 1)) rfl rfl kk
set_option maxRecDepth 20000 in
theorem LW_law_1281 {X : SX} {d : Nat} {st : List Value} {h : HH} {Q : Int32 → HH → Prop} {a0 a1 a2 : Value} {x : Int32}  (kk : E X d LW_law 1282 [a0, a1, a2, .int x] (.int x :: st) h Q) : E X d LW_law 1281 [a0, a1, a2, .int x] st h Q := Ev.iload_n (by decide +kernel : decode LW_law.2.1 1281 = .ok (.iload_n 3, 1)) rfl rfl kk
set_option maxRecDepth 20000 in
theorem LW_law_1282 {X : SX} {d : Nat} {L : List Value} {st : List Value} {h : HH} {Q : Int32 → HH → Prop}   (kk : E X d LW_law 1283 L (.int 1 :: st) h Q) : E X d LW_law 1282 L st h Q := Ev.iconst (by decide +kernel : decode LW_law.2.1 1282 = .ok (.iconst 1, 1)) (by decide) kk
set_option maxRecDepth 20000 in
theorem LW_law_1283 {X : SX} {d : Nat} {L : List Value} {st : List Value} {h : HH} {Q : Int32 → HH → Prop} {x z : Int32}  (kk : E X d LW_law 1284 L (.int (x + z) :: st) h Q) : E X d LW_law 1283 L (.int z :: .int x :: st) h Q := Ev.iadd (by decide +kernel : decode LW_law.2.1 1283 = .ok (.iadd, 1)) kk
set_option maxRecDepth 20000 in
theorem LW_law_1284 {X : SX} {d : Nat} {L : List Value} {st : List Value} {h : HH} {Q : Int32 → HH → Prop} {i : Int32} (hi : vp_in i X.1) (kk : E X d LW_law 1285 L (.int (X.2 i.toNatClampNeg) :: st) h Q) : E X d LW_law 1284 L (.int i :: .ref 1003 :: st) h Q := Ev.tScript (by decide +kernel : decode LW_law.2.1 1284 = .ok (.iaload, 1)) hi kk
set_option maxRecDepth 20000 in
theorem LW_law_1285 {X : SX} {d : Nat} {st : List Value} {h : HH} {Q : Int32 → HH → Prop} {a1 a2 a3 : Value}   (kk : E X d LW_law 1286 [.ref 1003, a1, a2, a3] (.ref 1003 :: st) h Q) : E X d LW_law 1285 [.ref 1003, a1, a2, a3] st h Q := Ev.aload_n (by decide +kernel : decode LW_law.2.1 1285 = .ok (.aload_n 0, 1)) rfl rfl kk
set_option maxRecDepth 20000 in
theorem LW_law_1286 {X : SX} {d : Nat} {st : List Value} {h : HH} {Q : Int32 → HH → Prop} {a0 a1 a2 : Value} {x : Int32}  (kk : E X d LW_law 1287 [a0, a1, a2, .int x] (.int x :: st) h Q) : E X d LW_law 1286 [a0, a1, a2, .int x] st h Q := Ev.iload_n (by decide +kernel : decode LW_law.2.1 1286 = .ok (.iload_n 3, 1)) rfl rfl kk
set_option maxRecDepth 20000 in
theorem LW_law_1287 {X : SX} {d : Nat} {L : List Value} {st : List Value} {h : HH} {Q : Int32 → HH → Prop}   (kk : E X d LW_law 1288 L (.int 2 :: st) h Q) : E X d LW_law 1287 L st h Q := Ev.iconst (by decide +kernel : decode LW_law.2.1 1287 = .ok (.iconst 2, 1)) (by decide) kk
set_option maxRecDepth 20000 in
theorem LW_law_1288 {X : SX} {d : Nat} {L : List Value} {st : List Value} {h : HH} {Q : Int32 → HH → Prop} {x z : Int32}  (kk : E X d LW_law 1289 L (.int (x + z) :: st) h Q) : E X d LW_law 1288 L (.int z :: .int x :: st) h Q := Ev.iadd (by decide +kernel : decode LW_law.2.1 1288 = .ok (.iadd, 1)) kk
set_option maxRecDepth 20000 in
theorem LW_law_1289 {X : SX} {d : Nat} {L : List Value} {st : List Value} {h : HH} {Q : Int32 → HH → Prop} {i : Int32} (hi : vp_in i X.1) (kk : E X d LW_law 1290 L (.int (X.2 i.toNatClampNeg) :: st) h Q) : E X d LW_law 1289 L (.int i :: .ref 1003 :: st) h Q := Ev.tScript (by decide +kernel : decode LW_law.2.1 1289 = .ok (.iaload, 1)) hi kk
set_option maxRecDepth 20000 in
theorem LW_law_1290 {X : SX} {d : Nat} {st : List Value} {h : HH} {Q : Int32 → HH → Prop} {a1 a2 a3 : Value}   (kk : E X d LW_law 1291 [.ref 1003, a1, a2, a3] (.ref 1003 :: st) h Q) : E X d LW_law 1290 [.ref 1003, a1, a2, a3] st h Q := Ev.aload_n (by decide +kernel : decode LW_law.2.1 1290 = .ok (.aload_n 0, 1)) rfl rfl kk
set_option maxRecDepth 20000 in
theorem LW_law_1291 {X : SX} {d : Nat} {st : List Value} {h : HH} {Q : Int32 → HH → Prop} {a0 a1 a2 : Value} {x : Int32}  (kk : E X d LW_law 1292 [a0, a1, a2, .int x] (.int x :: st) h Q) : E X d LW_law 1291 [a0, a1, a2, .int x] st h Q := Ev.iload_n (by decide +kernel : decode LW_law.2.1 1291 = .ok (.iload_n 3, 1)) rfl rfl kk
set_option maxRecDepth 20000 in
theorem LW_law_1292 {X : SX} {d : Nat} {L : List Value} {st : List Value} {h : HH} {Q : Int32 → HH → Prop}   (kk : E X d LW_law 1293 L (.int 3 :: st) h Q) : E X d LW_law 1292 L st h Q := Ev.iconst (by decide +kernel : decode LW_law.2.1 1292 = .ok (.iconst 3, 1)) (by decide) kk
set_option maxRecDepth 20000 in
theorem LW_law_1293 {X : SX} {d : Nat} {L : List Value} {st : List Value} {h : HH} {Q : Int32 → HH → Prop} {x z : Int32}  (kk : E X d LW_law 1294 L (.int (x + z) :: st) h Q) : E X d LW_law 1293 L (.int z :: .int x :: st) h Q := Ev.iadd (by decide +kernel : decode LW_law.2.1 1293 = .ok (.iadd, 1)) kk
set_option maxRecDepth 20000 in
theorem LW_law_1294 {X : SX} {d : Nat} {L : List Value} {st : List Value} {h : HH} {Q : Int32 → HH → Prop} {i : Int32} (hi : vp_in i X.1) (kk : E X d LW_law 1295 L (.int (X.2 i.toNatClampNeg) :: st) h Q) : E X d LW_law 1294 L (.int i :: .ref 1003 :: st) h Q := Ev.tScript (by decide +kernel : decode LW_law.2.1 1294 = .ok (.iaload, 1)) hi kk
set_option maxRecDepth 20000 in
theorem LW_law_1295 {X : SX} {d : Nat} {L : List Value} {st : List Value} {h : HH} {Q : Int32 → HH → Prop} {b0 : Int32} {b1 : Int32} {b2 : Int32}   (hc : (st.map (fun v => v.category)).sum ≤ 8) (kk : E X d FM_sheet 0 [.ref 57, .int b0, .int b1, .int b2, U0] [] h (fun x h' => E X (d + 1) LW_law 1298 L (.int x :: st) h' Q)) : E X (d + 1) LW_law 1295 L (.int b2 :: .int b1 :: .int b0 :: .ref 57 :: st) h Q := E.callVi (n := 3) (ix := 134) (args := [.int b0, .int b1, .int b2]) (by decide +kernel : decode LW_law.2.1 1295 = .ok (.invokevirtual 134, 3)) FM_sheet_ok rfl rfl rfl wd_1319 wd_1320 wd_1321 rfl FM_sheet_ds (Nat.le_of_ble_eq_true rfl) hc (by decide) kk
set_option maxRecDepth 20000 in
theorem LW_law_1298 {X : SX} {d : Nat} {L : List Value} {st : List Value} {h : HH} {Q : Int32 → HH → Prop} {x z : Int32}  (kt : x = z → E X d LW_law 1477 L st h Q) (kf : ¬ x = z → E X d LW_law 1301 L st h Q) : E X d LW_law 1298 L (.int z :: .int x :: st) h Q := Ev.icmp_eq (tgt := 1477) (by decide +kernel : decode LW_law.2.1 1298 = .ok (.if_icmp .eq 179, 3)) (by decide) kt kf
set_option maxRecDepth 20000 in
theorem LW_law_1301 {X : SX} {d : Nat} {L : List Value} {st : List Value} {h : HH} {Q : Int32 → HH → Prop}   (kk : E X d LW_law 1302 L (.int 0 :: st) h Q) : E X d LW_law 1301 L st h Q := Ev.iconst (by decide +kernel : decode LW_law.2.1 1301 = .ok (.iconst 0, 1)) (by decide) kk
set_option maxRecDepth 20000 in
theorem LW_law_1302 {X : SX} {d : Nat} {L : List Value} {h : HH} {Q : Int32 → HH → Prop} {x : Int32} (hb : narrow .boolean (.int x) = .int x) (hq : Q x h)  : E X d LW_law 1302 L [.int x] h Q := Ev.ireturn (by decide +kernel : decode LW_law.2.1 1302 = .ok (.ireturn, 1)) rfl hb ⟨rfl, hq⟩
set_option maxRecDepth 20000 in
theorem LW_law_1303 {X : SX} {d : Nat} {st : List Value} {h : HH} {Q : Int32 → HH → Prop} {a0 a2 a3 : Value}   (kk : E X d LW_law 1304 [a0, .ref 0, a2, a3] (.ref 0 :: st) h Q) : E X d LW_law 1303 [a0, .ref 0, a2, a3] st h Q := Ev.aload_n (by decide +kernel : decode LW_law.2.1 1303 = .ok (.aload_n 1, 1)) rfl rfl kk
set_option maxRecDepth 20000 in
theorem LW_law_1304 {X : SX} {d : Nat} {st : List Value} {h : HH} {Q : Int32 → HH → Prop} {a1 a2 a3 : Value}   (kk : E X d LW_law 1305 [.ref 1003, a1, a2, a3] (.ref 1003 :: st) h Q) : E X d LW_law 1304 [.ref 1003, a1, a2, a3] st h Q := Ev.aload_n (by decide +kernel : decode LW_law.2.1 1304 = .ok (.aload_n 0, 1)) rfl rfl kk
set_option maxRecDepth 20000 in
theorem LW_law_1305 {X : SX} {d : Nat} {st : List Value} {h : HH} {Q : Int32 → HH → Prop} {a0 a1 a2 : Value} {x : Int32}  (kk : E X d LW_law 1306 [a0, a1, a2, .int x] (.int x :: st) h Q) : E X d LW_law 1305 [a0, a1, a2, .int x] st h Q := Ev.iload_n (by decide +kernel : decode LW_law.2.1 1305 = .ok (.iload_n 3, 1)) rfl rfl kk
set_option maxRecDepth 20000 in
theorem LW_law_1306 {X : SX} {d : Nat} {L : List Value} {st : List Value} {h : HH} {Q : Int32 → HH → Prop}   (kk : E X d LW_law 1307 L (.int 1 :: st) h Q) : E X d LW_law 1306 L st h Q := Ev.iconst (by decide +kernel : decode LW_law.2.1 1306 = .ok (.iconst 1, 1)) (by decide) kk
set_option maxRecDepth 20000 in
theorem LW_law_1307 {X : SX} {d : Nat} {L : List Value} {st : List Value} {h : HH} {Q : Int32 → HH → Prop} {x z : Int32}  (kk : E X d LW_law 1308 L (.int (x + z) :: st) h Q) : E X d LW_law 1307 L (.int z :: .int x :: st) h Q := Ev.iadd (by decide +kernel : decode LW_law.2.1 1307 = .ok (.iadd, 1)) kk
set_option maxRecDepth 20000 in
theorem LW_law_1308 {X : SX} {d : Nat} {L : List Value} {st : List Value} {h : HH} {Q : Int32 → HH → Prop} {i : Int32} (hi : vp_in i X.1) (kk : E X d LW_law 1309 L (.int (X.2 i.toNatClampNeg) :: st) h Q) : E X d LW_law 1308 L (.int i :: .ref 1003 :: st) h Q := Ev.tScript (by decide +kernel : decode LW_law.2.1 1308 = .ok (.iaload, 1)) hi kk
set_option maxRecDepth 20000 in
theorem LW_law_1309 {X : SX} {d : Nat} {st : List Value} {h : HH} {Q : Int32 → HH → Prop} {a1 a2 a3 : Value}   (kk : E X d LW_law 1310 [.ref 1003, a1, a2, a3] (.ref 1003 :: st) h Q) : E X d LW_law 1309 [.ref 1003, a1, a2, a3] st h Q := Ev.aload_n (by decide +kernel : decode LW_law.2.1 1309 = .ok (.aload_n 0, 1)) rfl rfl kk
set_option maxRecDepth 20000 in
theorem LW_law_1310 {X : SX} {d : Nat} {st : List Value} {h : HH} {Q : Int32 → HH → Prop} {a0 a1 a2 : Value} {x : Int32}  (kk : E X d LW_law 1311 [a0, a1, a2, .int x] (.int x :: st) h Q) : E X d LW_law 1310 [a0, a1, a2, .int x] st h Q := Ev.iload_n (by decide +kernel : decode LW_law.2.1 1310 = .ok (.iload_n 3, 1)) rfl rfl kk
set_option maxRecDepth 20000 in
theorem LW_law_1311 {X : SX} {d : Nat} {L : List Value} {st : List Value} {h : HH} {Q : Int32 → HH → Prop}   (kk : E X d LW_law 1312 L (.int 2 :: st) h Q) : E X d LW_law 1311 L st h Q := Ev.iconst (by decide +kernel : decode LW_law.2.1 1311 = .ok (.iconst 2, 1)) (by decide) kk
set_option maxRecDepth 20000 in
theorem LW_law_1312 {X : SX} {d : Nat} {L : List Value} {st : List Value} {h : HH} {Q : Int32 → HH → Prop} {x z : Int32}  (kk : E X d LW_law 1313 L (.int (x + z) :: st) h Q) : E X d LW_law 1312 L (.int z :: .int x :: st) h Q := Ev.iadd (by decide +kernel : decode LW_law.2.1 1312 = .ok (.iadd, 1)) kk
set_option maxRecDepth 20000 in
theorem LW_law_1313 {X : SX} {d : Nat} {L : List Value} {st : List Value} {h : HH} {Q : Int32 → HH → Prop} {i : Int32} (hi : vp_in i X.1) (kk : E X d LW_law 1314 L (.int (X.2 i.toNatClampNeg) :: st) h Q) : E X d LW_law 1313 L (.int i :: .ref 1003 :: st) h Q := Ev.tScript (by decide +kernel : decode LW_law.2.1 1313 = .ok (.iaload, 1)) hi kk
set_option maxRecDepth 20000 in
theorem LW_law_1314 {X : SX} {d : Nat} {st : List Value} {h : HH} {Q : Int32 → HH → Prop} {a1 a2 a3 : Value}   (kk : E X d LW_law 1315 [.ref 1003, a1, a2, a3] (.ref 1003 :: st) h Q) : E X d LW_law 1314 [.ref 1003, a1, a2, a3] st h Q := Ev.aload_n (by decide +kernel : decode LW_law.2.1 1314 = .ok (.aload_n 0, 1)) rfl rfl kk
set_option maxRecDepth 20000 in
theorem LW_law_1315 {X : SX} {d : Nat} {st : List Value} {h : HH} {Q : Int32 → HH → Prop} {a0 a1 a2 : Value} {x : Int32}  (kk : E X d LW_law 1316 [a0, a1, a2, .int x] (.int x :: st) h Q) : E X d LW_law 1315 [a0, a1, a2, .int x] st h Q := Ev.iload_n (by decide +kernel : decode LW_law.2.1 1315 = .ok (.iload_n 3, 1)) rfl rfl kk
set_option maxRecDepth 20000 in
theorem LW_law_1316 {X : SX} {d : Nat} {L : List Value} {st : List Value} {h : HH} {Q : Int32 → HH → Prop}   (kk : E X d LW_law 1317 L (.int 3 :: st) h Q) : E X d LW_law 1316 L st h Q := Ev.iconst (by decide +kernel : decode LW_law.2.1 1316 = .ok (.iconst 3, 1)) (by decide) kk
set_option maxRecDepth 20000 in
theorem LW_law_1317 {X : SX} {d : Nat} {L : List Value} {st : List Value} {h : HH} {Q : Int32 → HH → Prop} {x z : Int32}  (kk : E X d LW_law 1318 L (.int (x + z) :: st) h Q) : E X d LW_law 1317 L (.int z :: .int x :: st) h Q := Ev.iadd (by decide +kernel : decode LW_law.2.1 1317 = .ok (.iadd, 1)) kk
set_option maxRecDepth 20000 in
theorem LW_law_1318 {X : SX} {d : Nat} {L : List Value} {st : List Value} {h : HH} {Q : Int32 → HH → Prop} {i : Int32} (hi : vp_in i X.1) (kk : E X d LW_law 1319 L (.int (X.2 i.toNatClampNeg) :: st) h Q) : E X d LW_law 1318 L (.int i :: .ref 1003 :: st) h Q := Ev.tScript (by decide +kernel : decode LW_law.2.1 1318 = .ok (.iaload, 1)) hi kk
set_option maxRecDepth 20000 in
theorem LW_law_1319 {X : SX} {d : Nat} {L : List Value} {st : List Value} {h : HH} {Q : Int32 → HH → Prop} {b0 : Int32} {b1 : Int32} {b2 : Int32}   (hc : (st.map (fun v => v.category)).sum ≤ 8) (kk : E X d FC_cell 0 [.ref 0, .int b0, .int b1, .int b2] [] h (fun x h' => E X (d + 1) LW_law 1322 L (.int x :: st) h' Q)) : E X (d + 1) LW_law 1319 L (.int b2 :: .int b1 :: .int b0 :: .ref 0 :: st) h Q := E.callVi (n := 3) (ix := 135) (args := [.int b0, .int b1, .int b2]) (by decide +kernel : decode LW_law.2.1 1319 = .ok (.invokevirtual 135, 3)) FC_cell_ok rfl rfl rfl wd_773 wd_774 wd_775 rfl FC_cell_ds (Nat.le_of_ble_eq_true rfl) hc (by decide) kk
set_option maxRecDepth 20000 in
theorem LW_law_1322 {X : SX} {d : Nat} {st : List Value} {h : HH} {Q : Int32 → HH → Prop} {a0 a1 a3 : Value}   (kk : E X d LW_law 1323 [a0, a1, .ref 57, a3] (.ref 57 :: st) h Q) : E X d LW_law 1322 [a0, a1, .ref 57, a3] st h Q := Ev.aload_n (by decide +kernel : decode LW_law.2.1 1322 = .ok (.aload_n 2, 1)) rfl rfl kk
set_option maxRecDepth 20000 in
theorem LW_law_1323 {X : SX} {d : Nat} {st : List Value} {h : HH} {Q : Int32 → HH → Prop} {a1 a2 a3 : Value}   (kk : E X d LW_law 1324 [.ref 1003, a1, a2, a3] (.ref 1003 :: st) h Q) : E X d LW_law 1323 [.ref 1003, a1, a2, a3] st h Q := Ev.aload_n (by decide +kernel : decode LW_law.2.1 1323 = .ok (.aload_n 0, 1)) rfl rfl kk
set_option maxRecDepth 20000 in
theorem LW_law_1324 {X : SX} {d : Nat} {st : List Value} {h : HH} {Q : Int32 → HH → Prop} {a0 a1 a2 : Value} {x : Int32}  (kk : E X d LW_law 1325 [a0, a1, a2, .int x] (.int x :: st) h Q) : E X d LW_law 1324 [a0, a1, a2, .int x] st h Q := Ev.iload_n (by decide +kernel : decode LW_law.2.1 1324 = .ok (.iload_n 3, 1)) rfl rfl kk
set_option maxRecDepth 20000 in
theorem LW_law_1325 {X : SX} {d : Nat} {L : List Value} {st : List Value} {h : HH} {Q : Int32 → HH → Prop}   (kk : E X d LW_law 1326 L (.int 1 :: st) h Q) : E X d LW_law 1325 L st h Q := Ev.iconst (by decide +kernel : decode LW_law.2.1 1325 = .ok (.iconst 1, 1)) (by decide) kk
set_option maxRecDepth 20000 in
theorem LW_law_1326 {X : SX} {d : Nat} {L : List Value} {st : List Value} {h : HH} {Q : Int32 → HH → Prop} {x z : Int32}  (kk : E X d LW_law 1327 L (.int (x + z) :: st) h Q) : E X d LW_law 1326 L (.int z :: .int x :: st) h Q := Ev.iadd (by decide +kernel : decode LW_law.2.1 1326 = .ok (.iadd, 1)) kk
set_option maxRecDepth 20000 in
theorem LW_law_1327 {X : SX} {d : Nat} {L : List Value} {st : List Value} {h : HH} {Q : Int32 → HH → Prop} {i : Int32} (hi : vp_in i X.1) (kk : E X d LW_law 1328 L (.int (X.2 i.toNatClampNeg) :: st) h Q) : E X d LW_law 1327 L (.int i :: .ref 1003 :: st) h Q := Ev.tScript (by decide +kernel : decode LW_law.2.1 1327 = .ok (.iaload, 1)) hi kk
set_option maxRecDepth 20000 in
theorem LW_law_1328 {X : SX} {d : Nat} {st : List Value} {h : HH} {Q : Int32 → HH → Prop} {a1 a2 a3 : Value}   (kk : E X d LW_law 1329 [.ref 1003, a1, a2, a3] (.ref 1003 :: st) h Q) : E X d LW_law 1328 [.ref 1003, a1, a2, a3] st h Q := Ev.aload_n (by decide +kernel : decode LW_law.2.1 1328 = .ok (.aload_n 0, 1)) rfl rfl kk
set_option maxRecDepth 20000 in
theorem LW_law_1329 {X : SX} {d : Nat} {st : List Value} {h : HH} {Q : Int32 → HH → Prop} {a0 a1 a2 : Value} {x : Int32}  (kk : E X d LW_law 1330 [a0, a1, a2, .int x] (.int x :: st) h Q) : E X d LW_law 1329 [a0, a1, a2, .int x] st h Q := Ev.iload_n (by decide +kernel : decode LW_law.2.1 1329 = .ok (.iload_n 3, 1)) rfl rfl kk
set_option maxRecDepth 20000 in
theorem LW_law_1330 {X : SX} {d : Nat} {L : List Value} {st : List Value} {h : HH} {Q : Int32 → HH → Prop}   (kk : E X d LW_law 1331 L (.int 2 :: st) h Q) : E X d LW_law 1330 L st h Q := Ev.iconst (by decide +kernel : decode LW_law.2.1 1330 = .ok (.iconst 2, 1)) (by decide) kk
set_option maxRecDepth 20000 in
theorem LW_law_1331 {X : SX} {d : Nat} {L : List Value} {st : List Value} {h : HH} {Q : Int32 → HH → Prop} {x z : Int32}  (kk : E X d LW_law 1332 L (.int (x + z) :: st) h Q) : E X d LW_law 1331 L (.int z :: .int x :: st) h Q := Ev.iadd (by decide +kernel : decode LW_law.2.1 1331 = .ok (.iadd, 1)) kk
set_option maxRecDepth 20000 in
theorem LW_law_1332 {X : SX} {d : Nat} {L : List Value} {st : List Value} {h : HH} {Q : Int32 → HH → Prop} {i : Int32} (hi : vp_in i X.1) (kk : E X d LW_law 1333 L (.int (X.2 i.toNatClampNeg) :: st) h Q) : E X d LW_law 1332 L (.int i :: .ref 1003 :: st) h Q := Ev.tScript (by decide +kernel : decode LW_law.2.1 1332 = .ok (.iaload, 1)) hi kk
set_option maxRecDepth 20000 in
theorem LW_law_1333 {X : SX} {d : Nat} {st : List Value} {h : HH} {Q : Int32 → HH → Prop} {a1 a2 a3 : Value}   (kk : E X d LW_law 1334 [.ref 1003, a1, a2, a3] (.ref 1003 :: st) h Q) : E X d LW_law 1333 [.ref 1003, a1, a2, a3] st h Q := Ev.aload_n (by decide +kernel : decode LW_law.2.1 1333 = .ok (.aload_n 0, 1)) rfl rfl kk
set_option maxRecDepth 20000 in
theorem LW_law_1334 {X : SX} {d : Nat} {st : List Value} {h : HH} {Q : Int32 → HH → Prop} {a0 a1 a2 : Value} {x : Int32}  (kk : E X d LW_law 1335 [a0, a1, a2, .int x] (.int x :: st) h Q) : E X d LW_law 1334 [a0, a1, a2, .int x] st h Q := Ev.iload_n (by decide +kernel : decode LW_law.2.1 1334 = .ok (.iload_n 3, 1)) rfl rfl kk
set_option maxRecDepth 20000 in
theorem LW_law_1335 {X : SX} {d : Nat} {L : List Value} {st : List Value} {h : HH} {Q : Int32 → HH → Prop}   (kk : E X d LW_law 1336 L (.int 3 :: st) h Q) : E X d LW_law 1335 L st h Q := Ev.iconst (by decide +kernel : decode LW_law.2.1 1335 = .ok (.iconst 3, 1)) (by decide) kk
set_option maxRecDepth 20000 in
theorem LW_law_1336 {X : SX} {d : Nat} {L : List Value} {st : List Value} {h : HH} {Q : Int32 → HH → Prop} {x z : Int32}  (kk : E X d LW_law 1337 L (.int (x + z) :: st) h Q) : E X d LW_law 1336 L (.int z :: .int x :: st) h Q := Ev.iadd (by decide +kernel : decode LW_law.2.1 1336 = .ok (.iadd, 1)) kk
set_option maxRecDepth 20000 in
theorem LW_law_1337 {X : SX} {d : Nat} {L : List Value} {st : List Value} {h : HH} {Q : Int32 → HH → Prop} {i : Int32} (hi : vp_in i X.1) (kk : E X d LW_law 1338 L (.int (X.2 i.toNatClampNeg) :: st) h Q) : E X d LW_law 1337 L (.int i :: .ref 1003 :: st) h Q := Ev.tScript (by decide +kernel : decode LW_law.2.1 1337 = .ok (.iaload, 1)) hi kk
set_option maxRecDepth 20000 in
theorem LW_law_1338 {X : SX} {d : Nat} {L : List Value} {st : List Value} {h : HH} {Q : Int32 → HH → Prop} {b0 : Int32} {b1 : Int32} {b2 : Int32}   (hc : (st.map (fun v => v.category)).sum ≤ 8) (kk : E X d FM_cell 0 [.ref 57, .int b0, .int b1, .int b2] [] h (fun x h' => E X (d + 1) LW_law 1341 L (.int x :: st) h' Q)) : E X (d + 1) LW_law 1338 L (.int b2 :: .int b1 :: .int b0 :: .ref 57 :: st) h Q := E.callVi (n := 3) (ix := 138) (args := [.int b0, .int b1, .int b2]) (by decide +kernel : decode LW_law.2.1 1338 = .ok (.invokevirtual 138, 3)) FM_cell_ok rfl rfl rfl wd_1323 wd_1324 wd_1325 rfl FM_cell_ds (Nat.le_of_ble_eq_true rfl) hc (by decide) kk
set_option maxRecDepth 20000 in
theorem LW_law_1341 {X : SX} {d : Nat} {L : List Value} {st : List Value} {h : HH} {Q : Int32 → HH → Prop} {x z : Int32}  (kt : x = z → E X d LW_law 1477 L st h Q) (kf : ¬ x = z → E X d LW_law 1344 L st h Q) : E X d LW_law 1341 L (.int z :: .int x :: st) h Q := Ev.icmp_eq (tgt := 1477) (by decide +kernel : decode LW_law.2.1 1341 = .ok (.if_icmp .eq 136, 3)) (by decide) kt kf
set_option maxRecDepth 20000 in
theorem LW_law_1344 {X : SX} {d : Nat} {L : List Value} {st : List Value} {h : HH} {Q : Int32 → HH → Prop}   (kk : E X d LW_law 1345 L (.int 0 :: st) h Q) : E X d LW_law 1344 L st h Q := Ev.iconst (by decide +kernel : decode LW_law.2.1 1344 = .ok (.iconst 0, 1)) (by decide) kk
set_option maxRecDepth 20000 in
theorem LW_law_1345 {X : SX} {d : Nat} {L : List Value} {h : HH} {Q : Int32 → HH → Prop} {x : Int32} (hb : narrow .boolean (.int x) = .int x) (hq : Q x h)  : E X d LW_law 1345 L [.int x] h Q := Ev.ireturn (by decide +kernel : decode LW_law.2.1 1345 = .ok (.ireturn, 1)) rfl hb ⟨rfl, hq⟩
set_option maxRecDepth 20000 in
theorem LW_law_1346 {X : SX} {d : Nat} {st : List Value} {h : HH} {Q : Int32 → HH → Prop} {a0 a2 a3 : Value}   (kk : E X d LW_law 1347 [a0, .ref 0, a2, a3] (.ref 0 :: st) h Q) : E X d LW_law 1346 [a0, .ref 0, a2, a3] st h Q := Ev.aload_n (by decide +kernel : decode LW_law.2.1 1346 = .ok (.aload_n 1, 1)) rfl rfl kk
set_option maxRecDepth 20000 in
theorem LW_law_1347 {X : SX} {d : Nat} {st : List Value} {h : HH} {Q : Int32 → HH → Prop} {a1 a2 a3 : Value}   (kk : E X d LW_law 1348 [.ref 1003, a1, a2, a3] (.ref 1003 :: st) h Q) : E X d LW_law 1347 [.ref 1003, a1, a2, a3] st h Q := Ev.aload_n (by decide +kernel : decode LW_law.2.1 1347 = .ok (.aload_n 0, 1)) rfl rfl kk
set_option maxRecDepth 20000 in
theorem LW_law_1348 {X : SX} {d : Nat} {st : List Value} {h : HH} {Q : Int32 → HH → Prop} {a0 a1 a2 : Value} {x : Int32}  (kk : E X d LW_law 1349 [a0, a1, a2, .int x] (.int x :: st) h Q) : E X d LW_law 1348 [a0, a1, a2, .int x] st h Q := Ev.iload_n (by decide +kernel : decode LW_law.2.1 1348 = .ok (.iload_n 3, 1)) rfl rfl kk
set_option maxRecDepth 20000 in
theorem LW_law_1349 {X : SX} {d : Nat} {L : List Value} {st : List Value} {h : HH} {Q : Int32 → HH → Prop}   (kk : E X d LW_law 1350 L (.int 1 :: st) h Q) : E X d LW_law 1349 L st h Q := Ev.iconst (by decide +kernel : decode LW_law.2.1 1349 = .ok (.iconst 1, 1)) (by decide) kk
set_option maxRecDepth 20000 in
theorem LW_law_1350 {X : SX} {d : Nat} {L : List Value} {st : List Value} {h : HH} {Q : Int32 → HH → Prop} {x z : Int32}  (kk : E X d LW_law 1351 L (.int (x + z) :: st) h Q) : E X d LW_law 1350 L (.int z :: .int x :: st) h Q := Ev.iadd (by decide +kernel : decode LW_law.2.1 1350 = .ok (.iadd, 1)) kk
set_option maxRecDepth 20000 in
theorem LW_law_1351 {X : SX} {d : Nat} {L : List Value} {st : List Value} {h : HH} {Q : Int32 → HH → Prop} {i : Int32} (hi : vp_in i X.1) (kk : E X d LW_law 1352 L (.int (X.2 i.toNatClampNeg) :: st) h Q) : E X d LW_law 1351 L (.int i :: .ref 1003 :: st) h Q := Ev.tScript (by decide +kernel : decode LW_law.2.1 1351 = .ok (.iaload, 1)) hi kk
set_option maxRecDepth 20000 in
theorem LW_law_1352 {X : SX} {d : Nat} {st : List Value} {h : HH} {Q : Int32 → HH → Prop} {a1 a2 a3 : Value}   (kk : E X d LW_law 1353 [.ref 1003, a1, a2, a3] (.ref 1003 :: st) h Q) : E X d LW_law 1352 [.ref 1003, a1, a2, a3] st h Q := Ev.aload_n (by decide +kernel : decode LW_law.2.1 1352 = .ok (.aload_n 0, 1)) rfl rfl kk
set_option maxRecDepth 20000 in
theorem LW_law_1353 {X : SX} {d : Nat} {st : List Value} {h : HH} {Q : Int32 → HH → Prop} {a0 a1 a2 : Value} {x : Int32}  (kk : E X d LW_law 1354 [a0, a1, a2, .int x] (.int x :: st) h Q) : E X d LW_law 1353 [a0, a1, a2, .int x] st h Q := Ev.iload_n (by decide +kernel : decode LW_law.2.1 1353 = .ok (.iload_n 3, 1)) rfl rfl kk
set_option maxRecDepth 20000 in
theorem LW_law_1354 {X : SX} {d : Nat} {L : List Value} {st : List Value} {h : HH} {Q : Int32 → HH → Prop}   (kk : E X d LW_law 1355 L (.int 2 :: st) h Q) : E X d LW_law 1354 L st h Q := Ev.iconst (by decide +kernel : decode LW_law.2.1 1354 = .ok (.iconst 2, 1)) (by decide) kk
set_option maxRecDepth 20000 in
theorem LW_law_1355 {X : SX} {d : Nat} {L : List Value} {st : List Value} {h : HH} {Q : Int32 → HH → Prop} {x z : Int32}  (kk : E X d LW_law 1356 L (.int (x + z) :: st) h Q) : E X d LW_law 1355 L (.int z :: .int x :: st) h Q := Ev.iadd (by decide +kernel : decode LW_law.2.1 1355 = .ok (.iadd, 1)) kk
set_option maxRecDepth 20000 in
theorem LW_law_1356 {X : SX} {d : Nat} {L : List Value} {st : List Value} {h : HH} {Q : Int32 → HH → Prop} {i : Int32} (hi : vp_in i X.1) (kk : E X d LW_law 1357 L (.int (X.2 i.toNatClampNeg) :: st) h Q) : E X d LW_law 1356 L (.int i :: .ref 1003 :: st) h Q := Ev.tScript (by decide +kernel : decode LW_law.2.1 1356 = .ok (.iaload, 1)) hi kk
set_option maxRecDepth 20000 in
theorem LW_law_1357 {X : SX} {d : Nat} {st : List Value} {h : HH} {Q : Int32 → HH → Prop} {a1 a2 a3 : Value}   (kk : E X d LW_law 1358 [.ref 1003, a1, a2, a3] (.ref 1003 :: st) h Q) : E X d LW_law 1357 [.ref 1003, a1, a2, a3] st h Q := Ev.aload_n (by decide +kernel : decode LW_law.2.1 1357 = .ok (.aload_n 0, 1)) rfl rfl kk
set_option maxRecDepth 20000 in
theorem LW_law_1358 {X : SX} {d : Nat} {st : List Value} {h : HH} {Q : Int32 → HH → Prop} {a0 a1 a2 : Value} {x : Int32}  (kk : E X d LW_law 1359 [a0, a1, a2, .int x] (.int x :: st) h Q) : E X d LW_law 1358 [a0, a1, a2, .int x] st h Q := Ev.iload_n (by decide +kernel : decode LW_law.2.1 1358 = .ok (.iload_n 3, 1)) rfl rfl kk
set_option maxRecDepth 20000 in
theorem LW_law_1359 {X : SX} {d : Nat} {L : List Value} {st : List Value} {h : HH} {Q : Int32 → HH → Prop}   (kk : E X d LW_law 1360 L (.int 3 :: st) h Q) : E X d LW_law 1359 L st h Q := Ev.iconst (by decide +kernel : decode LW_law.2.1 1359 = .ok (.iconst 3, 1)) (by decide) kk
set_option maxRecDepth 20000 in
theorem LW_law_1360 {X : SX} {d : Nat} {L : List Value} {st : List Value} {h : HH} {Q : Int32 → HH → Prop} {x z : Int32}  (kk : E X d LW_law 1361 L (.int (x + z) :: st) h Q) : E X d LW_law 1360 L (.int z :: .int x :: st) h Q := Ev.iadd (by decide +kernel : decode LW_law.2.1 1360 = .ok (.iadd, 1)) kk
set_option maxRecDepth 20000 in
theorem LW_law_1361 {X : SX} {d : Nat} {L : List Value} {st : List Value} {h : HH} {Q : Int32 → HH → Prop} {i : Int32} (hi : vp_in i X.1) (kk : E X d LW_law 1362 L (.int (X.2 i.toNatClampNeg) :: st) h Q) : E X d LW_law 1361 L (.int i :: .ref 1003 :: st) h Q := Ev.tScript (by decide +kernel : decode LW_law.2.1 1361 = .ok (.iaload, 1)) hi kk
set_option maxRecDepth 20000 in
theorem LW_law_1362 {X : SX} {d : Nat} {st : List Value} {h : HH} {Q : Int32 → HH → Prop} {a1 a2 a3 : Value}   (kk : E X d LW_law 1363 [.ref 1003, a1, a2, a3] (.ref 1003 :: st) h Q) : E X d LW_law 1362 [.ref 1003, a1, a2, a3] st h Q := Ev.aload_n (by decide +kernel : decode LW_law.2.1 1362 = .ok (.aload_n 0, 1)) rfl rfl kk
set_option maxRecDepth 20000 in
theorem LW_law_1363 {X : SX} {d : Nat} {st : List Value} {h : HH} {Q : Int32 → HH → Prop} {a0 a1 a2 : Value} {x : Int32}  (kk : E X d LW_law 1364 [a0, a1, a2, .int x] (.int x :: st) h Q) : E X d LW_law 1363 [a0, a1, a2, .int x] st h Q := Ev.iload_n (by decide +kernel : decode LW_law.2.1 1363 = .ok (.iload_n 3, 1)) rfl rfl kk
set_option maxRecDepth 20000 in
theorem LW_law_1364 {X : SX} {d : Nat} {L : List Value} {st : List Value} {h : HH} {Q : Int32 → HH → Prop}   (kk : E X d LW_law 1365 L (.int 4 :: st) h Q) : E X d LW_law 1364 L st h Q := Ev.iconst (by decide +kernel : decode LW_law.2.1 1364 = .ok (.iconst 4, 1)) (by decide) kk
set_option maxRecDepth 20000 in
theorem LW_law_1365 {X : SX} {d : Nat} {L : List Value} {st : List Value} {h : HH} {Q : Int32 → HH → Prop} {x z : Int32}  (kk : E X d LW_law 1366 L (.int (x + z) :: st) h Q) : E X d LW_law 1365 L (.int z :: .int x :: st) h Q := Ev.iadd (by decide +kernel : decode LW_law.2.1 1365 = .ok (.iadd, 1)) kk
set_option maxRecDepth 20000 in
theorem LW_law_1366 {X : SX} {d : Nat} {L : List Value} {st : List Value} {h : HH} {Q : Int32 → HH → Prop} {i : Int32} (hi : vp_in i X.1) (kk : E X d LW_law 1367 L (.int (X.2 i.toNatClampNeg) :: st) h Q) : E X d LW_law 1366 L (.int i :: .ref 1003 :: st) h Q := Ev.tScript (by decide +kernel : decode LW_law.2.1 1366 = .ok (.iaload, 1)) hi kk
set_option maxRecDepth 20000 in
theorem LW_law_1367 {X : SX} {d : Nat} {st : List Value} {h : HH} {Q : Int32 → HH → Prop} {a1 a2 a3 : Value}   (kk : E X d LW_law 1368 [.ref 1003, a1, a2, a3] (.ref 1003 :: st) h Q) : E X d LW_law 1367 [.ref 1003, a1, a2, a3] st h Q := Ev.aload_n (by decide +kernel : decode LW_law.2.1 1367 = .ok (.aload_n 0, 1)) rfl rfl kk
set_option maxRecDepth 20000 in
theorem LW_law_1368 {X : SX} {d : Nat} {st : List Value} {h : HH} {Q : Int32 → HH → Prop} {a0 a1 a2 : Value} {x : Int32}  (kk : E X d LW_law 1369 [a0, a1, a2, .int x] (.int x :: st) h Q) : E X d LW_law 1368 [a0, a1, a2, .int x] st h Q := Ev.iload_n (by decide +kernel : decode LW_law.2.1 1368 = .ok (.iload_n 3, 1)) rfl rfl kk
set_option maxRecDepth 20000 in
theorem LW_law_1369 {X : SX} {d : Nat} {L : List Value} {st : List Value} {h : HH} {Q : Int32 → HH → Prop}   (kk : E X d LW_law 1370 L (.int 5 :: st) h Q) : E X d LW_law 1369 L st h Q := Ev.iconst (by decide +kernel : decode LW_law.2.1 1369 = .ok (.iconst 5, 1)) (by decide) kk
set_option maxRecDepth 20000 in
theorem LW_law_1370 {X : SX} {d : Nat} {L : List Value} {st : List Value} {h : HH} {Q : Int32 → HH → Prop} {x z : Int32}  (kk : E X d LW_law 1371 L (.int (x + z) :: st) h Q) : E X d LW_law 1370 L (.int z :: .int x :: st) h Q := Ev.iadd (by decide +kernel : decode LW_law.2.1 1370 = .ok (.iadd, 1)) kk
set_option maxRecDepth 20000 in
theorem LW_law_1371 {X : SX} {d : Nat} {L : List Value} {st : List Value} {h : HH} {Q : Int32 → HH → Prop} {i : Int32} (hi : vp_in i X.1) (kk : E X d LW_law 1372 L (.int (X.2 i.toNatClampNeg) :: st) h Q) : E X d LW_law 1371 L (.int i :: .ref 1003 :: st) h Q := Ev.tScript (by decide +kernel : decode LW_law.2.1 1371 = .ok (.iaload, 1)) hi kk
set_option maxRecDepth 20000 in
theorem LW_law_1372 {X : SX} {d : Nat} {st : List Value} {h : HH} {Q : Int32 → HH → Prop} {a1 a2 a3 : Value}   (kk : E X d LW_law 1373 [.ref 1003, a1, a2, a3] (.ref 1003 :: st) h Q) : E X d LW_law 1372 [.ref 1003, a1, a2, a3] st h Q := Ev.aload_n (by decide +kernel : decode LW_law.2.1 1372 = .ok (.aload_n 0, 1)) rfl rfl kk
set_option maxRecDepth 20000 in
theorem LW_law_1373 {X : SX} {d : Nat} {st : List Value} {h : HH} {Q : Int32 → HH → Prop} {a0 a1 a2 : Value} {x : Int32}  (kk : E X d LW_law 1374 [a0, a1, a2, .int x] (.int x :: st) h Q) : E X d LW_law 1373 [a0, a1, a2, .int x] st h Q := Ev.iload_n (by decide +kernel : decode LW_law.2.1 1373 = .ok (.iload_n 3, 1)) rfl rfl kk
set_option maxRecDepth 20000 in
theorem LW_law_1374 {X : SX} {d : Nat} {L : List Value} {st : List Value} {h : HH} {Q : Int32 → HH → Prop}   (kk : E X d LW_law 1376 L (.int 6 :: st) h Q) : E X d LW_law 1374 L st h Q := Ev.bipush (by decide +kernel : decode LW_law.2.1 1374 = .ok (.bipush 6, 2)) (by decide +kernel) kk
set_option maxRecDepth 20000 in
theorem LW_law_1376 {X : SX} {d : Nat} {L : List Value} {st : List Value} {h : HH} {Q : Int32 → HH → Prop} {x z : Int32}  (kk : E X d LW_law 1377 L (.int (x + z) :: st) h Q) : E X d LW_law 1376 L (.int z :: .int x :: st) h Q := Ev.iadd (by decide +kernel : decode LW_law.2.1 1376 = .ok (.iadd, 1)) kk
set_option maxRecDepth 20000 in
theorem LW_law_1377 {X : SX} {d : Nat} {L : List Value} {st : List Value} {h : HH} {Q : Int32 → HH → Prop} {i : Int32} (hi : vp_in i X.1) (kk : E X d LW_law 1378 L (.int (X.2 i.toNatClampNeg) :: st) h Q) : E X d LW_law 1377 L (.int i :: .ref 1003 :: st) h Q := Ev.tScript (by decide +kernel : decode LW_law.2.1 1377 = .ok (.iaload, 1)) hi kk
set_option maxRecDepth 20000 in
theorem LW_law_1378 {X : SX} {d : Nat} {L : List Value} {st : List Value} {h : HH} {Q : Int32 → HH → Prop} {b0 : Int32} {b1 : Int32} {b2 : Int32} {b3 : Int32} {b4 : Int32} {b5 : Int32}   (hc : (st.map (fun v => v.category)).sum ≤ 8) (kk : E X d FC_signs 0 [.ref 0, .int b0, .int b1, .int b2, .int b3, .int b4, .int b5, U0, U0, U0, U0] [] h (fun x h' => E X (d + 1) LW_law 1381 L (.int x :: st) h' Q)) : E X (d + 1) LW_law 1378 L (.int b5 :: .int b4 :: .int b3 :: .int b2 :: .int b1 :: .int b0 :: .ref 0 :: st) h Q := E.callVi (n := 6) (ix := 139) (args := [.int b0, .int b1, .int b2, .int b3, .int b4, .int b5]) (by decide +kernel : decode LW_law.2.1 1378 = .ok (.invokevirtual 139, 3)) FC_signs_ok rfl rfl rfl wd_786 wd_787 wd_788 rfl FC_signs_ds (Nat.le_of_ble_eq_true rfl) hc (by decide) kk
set_option maxRecDepth 20000 in
theorem LW_law_1381 {X : SX} {d : Nat} {st : List Value} {h : HH} {Q : Int32 → HH → Prop} {a0 a1 a3 : Value}   (kk : E X d LW_law 1382 [a0, a1, .ref 57, a3] (.ref 57 :: st) h Q) : E X d LW_law 1381 [a0, a1, .ref 57, a3] st h Q := Ev.aload_n (by decide +kernel : decode LW_law.2.1 1381 = .ok (.aload_n 2, 1)) rfl rfl kk
set_option maxRecDepth 20000 in
theorem LW_law_1382 {X : SX} {d : Nat} {st : List Value} {h : HH} {Q : Int32 → HH → Prop} {a1 a2 a3 : Value}   (kk : E X d LW_law 1383 [.ref 1003, a1, a2, a3] (.ref 1003 :: st) h Q) : E X d LW_law 1382 [.ref 1003, a1, a2, a3] st h Q := Ev.aload_n (by decide +kernel : decode LW_law.2.1 1382 = .ok (.aload_n 0, 1)) rfl rfl kk
set_option maxRecDepth 20000 in
theorem LW_law_1383 {X : SX} {d : Nat} {st : List Value} {h : HH} {Q : Int32 → HH → Prop} {a0 a1 a2 : Value} {x : Int32}  (kk : E X d LW_law 1384 [a0, a1, a2, .int x] (.int x :: st) h Q) : E X d LW_law 1383 [a0, a1, a2, .int x] st h Q := Ev.iload_n (by decide +kernel : decode LW_law.2.1 1383 = .ok (.iload_n 3, 1)) rfl rfl kk
set_option maxRecDepth 20000 in
theorem LW_law_1384 {X : SX} {d : Nat} {L : List Value} {st : List Value} {h : HH} {Q : Int32 → HH → Prop}   (kk : E X d LW_law 1385 L (.int 1 :: st) h Q) : E X d LW_law 1384 L st h Q := Ev.iconst (by decide +kernel : decode LW_law.2.1 1384 = .ok (.iconst 1, 1)) (by decide) kk
set_option maxRecDepth 20000 in
theorem LW_law_1385 {X : SX} {d : Nat} {L : List Value} {st : List Value} {h : HH} {Q : Int32 → HH → Prop} {x z : Int32}  (kk : E X d LW_law 1386 L (.int (x + z) :: st) h Q) : E X d LW_law 1385 L (.int z :: .int x :: st) h Q := Ev.iadd (by decide +kernel : decode LW_law.2.1 1385 = .ok (.iadd, 1)) kk
set_option maxRecDepth 20000 in
theorem LW_law_1386 {X : SX} {d : Nat} {L : List Value} {st : List Value} {h : HH} {Q : Int32 → HH → Prop} {i : Int32} (hi : vp_in i X.1) (kk : E X d LW_law 1387 L (.int (X.2 i.toNatClampNeg) :: st) h Q) : E X d LW_law 1386 L (.int i :: .ref 1003 :: st) h Q := Ev.tScript (by decide +kernel : decode LW_law.2.1 1386 = .ok (.iaload, 1)) hi kk
set_option maxRecDepth 20000 in
theorem LW_law_1387 {X : SX} {d : Nat} {st : List Value} {h : HH} {Q : Int32 → HH → Prop} {a1 a2 a3 : Value}   (kk : E X d LW_law 1388 [.ref 1003, a1, a2, a3] (.ref 1003 :: st) h Q) : E X d LW_law 1387 [.ref 1003, a1, a2, a3] st h Q := Ev.aload_n (by decide +kernel : decode LW_law.2.1 1387 = .ok (.aload_n 0, 1)) rfl rfl kk
set_option maxRecDepth 20000 in
theorem LW_law_1388 {X : SX} {d : Nat} {st : List Value} {h : HH} {Q : Int32 → HH → Prop} {a0 a1 a2 : Value} {x : Int32}  (kk : E X d LW_law 1389 [a0, a1, a2, .int x] (.int x :: st) h Q) : E X d LW_law 1388 [a0, a1, a2, .int x] st h Q := Ev.iload_n (by decide +kernel : decode LW_law.2.1 1388 = .ok (.iload_n 3, 1)) rfl rfl kk
set_option maxRecDepth 20000 in
theorem LW_law_1389 {X : SX} {d : Nat} {L : List Value} {st : List Value} {h : HH} {Q : Int32 → HH → Prop}   (kk : E X d LW_law 1390 L (.int 2 :: st) h Q) : E X d LW_law 1389 L st h Q := Ev.iconst (by decide +kernel : decode LW_law.2.1 1389 = .ok (.iconst 2, 1)) (by decide) kk
set_option maxRecDepth 20000 in
theorem LW_law_1390 {X : SX} {d : Nat} {L : List Value} {st : List Value} {h : HH} {Q : Int32 → HH → Prop} {x z : Int32}  (kk : E X d LW_law 1391 L (.int (x + z) :: st) h Q) : E X d LW_law 1390 L (.int z :: .int x :: st) h Q := Ev.iadd (by decide +kernel : decode LW_law.2.1 1390 = .ok (.iadd, 1)) kk
set_option maxRecDepth 20000 in
theorem LW_law_1391 {X : SX} {d : Nat} {L : List Value} {st : List Value} {h : HH} {Q : Int32 → HH → Prop} {i : Int32} (hi : vp_in i X.1) (kk : E X d LW_law 1392 L (.int (X.2 i.toNatClampNeg) :: st) h Q) : E X d LW_law 1391 L (.int i :: .ref 1003 :: st) h Q := Ev.tScript (by decide +kernel : decode LW_law.2.1 1391 = .ok (.iaload, 1)) hi kk
set_option maxRecDepth 20000 in
theorem LW_law_1392 {X : SX} {d : Nat} {st : List Value} {h : HH} {Q : Int32 → HH → Prop} {a1 a2 a3 : Value}   (kk : E X d LW_law 1393 [.ref 1003, a1, a2, a3] (.ref 1003 :: st) h Q) : E X d LW_law 1392 [.ref 1003, a1, a2, a3] st h Q := Ev.aload_n (by decide +kernel : decode LW_law.2.1 1392 = .ok (.aload_n 0, 1)) rfl rfl kk
set_option maxRecDepth 20000 in
theorem LW_law_1393 {X : SX} {d : Nat} {st : List Value} {h : HH} {Q : Int32 → HH → Prop} {a0 a1 a2 : Value} {x : Int32}  (kk : E X d LW_law 1394 [a0, a1, a2, .int x] (.int x :: st) h Q) : E X d LW_law 1393 [a0, a1, a2, .int x] st h Q := Ev.iload_n (by decide +kernel : decode LW_law.2.1 1393 = .ok (.iload_n 3, 1)) rfl rfl kk
set_option maxRecDepth 20000 in
theorem LW_law_1394 {X : SX} {d : Nat} {L : List Value} {st : List Value} {h : HH} {Q : Int32 → HH → Prop}   (kk : E X d LW_law 1395 L (.int 3 :: st) h Q) : E X d LW_law 1394 L st h Q := Ev.iconst (by decide +kernel : decode LW_law.2.1 1394 = .ok (.iconst 3, 1)) (by decide) kk
set_option maxRecDepth 20000 in
theorem LW_law_1395 {X : SX} {d : Nat} {L : List Value} {st : List Value} {h : HH} {Q : Int32 → HH → Prop} {x z : Int32}  (kk : E X d LW_law 1396 L (.int (x + z) :: st) h Q) : E X d LW_law 1395 L (.int z :: .int x :: st) h Q := Ev.iadd (by decide +kernel : decode LW_law.2.1 1395 = .ok (.iadd, 1)) kk
set_option maxRecDepth 20000 in
theorem LW_law_1396 {X : SX} {d : Nat} {L : List Value} {st : List Value} {h : HH} {Q : Int32 → HH → Prop} {i : Int32} (hi : vp_in i X.1) (kk : E X d LW_law 1397 L (.int (X.2 i.toNatClampNeg) :: st) h Q) : E X d LW_law 1396 L (.int i :: .ref 1003 :: st) h Q := Ev.tScript (by decide +kernel : decode LW_law.2.1 1396 = .ok (.iaload, 1)) hi kk
set_option maxRecDepth 20000 in
theorem LW_law_1397 {X : SX} {d : Nat} {st : List Value} {h : HH} {Q : Int32 → HH → Prop} {a1 a2 a3 : Value}   (kk : E X d LW_law 1398 [.ref 1003, a1, a2, a3] (.ref 1003 :: st) h Q) : E X d LW_law 1397 [.ref 1003, a1, a2, a3] st h Q := Ev.aload_n (by decide +kernel : decode LW_law.2.1 1397 = .ok (.aload_n 0, 1)) rfl rfl kk
set_option maxRecDepth 20000 in
theorem LW_law_1398 {X : SX} {d : Nat} {st : List Value} {h : HH} {Q : Int32 → HH → Prop} {a0 a1 a2 : Value} {x : Int32}  (kk : E X d LW_law 1399 [a0, a1, a2, .int x] (.int x :: st) h Q) : E X d LW_law 1398 [a0, a1, a2, .int x] st h Q := Ev.iload_n (by decide +kernel : decode LW_law.2.1 1398 = .ok (.iload_n 3, 1)) rfl rfl kk
set_option maxRecDepth 20000 in
theorem LW_law_1399 {X : SX} {d : Nat} {L : List Value} {st : List Value} {h : HH} {Q : Int32 → HH → Prop}   (kk : E X d LW_law 1400 L (.int 4 :: st) h Q) : E X d LW_law 1399 L st h Q := Ev.iconst (by decide +kernel : decode LW_law.2.1 1399 = .ok (.iconst 4, 1)) (by decide) kk
set_option maxRecDepth 20000 in
theorem LW_law_1400 {X : SX} {d : Nat} {L : List Value} {st : List Value} {h : HH} {Q : Int32 → HH → Prop} {x z : Int32}  (kk : E X d LW_law 1401 L (.int (x + z) :: st) h Q) : E X d LW_law 1400 L (.int z :: .int x :: st) h Q := Ev.iadd (by decide +kernel : decode LW_law.2.1 1400 = .ok (.iadd, 1)) kk
set_option maxRecDepth 20000 in
theorem LW_law_1401 {X : SX} {d : Nat} {L : List Value} {st : List Value} {h : HH} {Q : Int32 → HH → Prop} {i : Int32} (hi : vp_in i X.1) (kk : E X d LW_law 1402 L (.int (X.2 i.toNatClampNeg) :: st) h Q) : E X d LW_law 1401 L (.int i :: .ref 1003 :: st) h Q := Ev.tScript (by decide +kernel : decode LW_law.2.1 1401 = .ok (.iaload, 1)) hi kk
set_option maxRecDepth 20000 in
theorem LW_law_1402 {X : SX} {d : Nat} {st : List Value} {h : HH} {Q : Int32 → HH → Prop} {a1 a2 a3 : Value}   (kk : E X d LW_law 1403 [.ref 1003, a1, a2, a3] (.ref 1003 :: st) h Q) : E X d LW_law 1402 [.ref 1003, a1, a2, a3] st h Q := Ev.aload_n (by decide +kernel : decode LW_law.2.1 1402 = .ok (.aload_n 0, 1)) rfl rfl kk
set_option maxRecDepth 20000 in
theorem LW_law_1403 {X : SX} {d : Nat} {st : List Value} {h : HH} {Q : Int32 → HH → Prop} {a0 a1 a2 : Value} {x : Int32}  (kk : E X d LW_law 1404 [a0, a1, a2, .int x] (.int x :: st) h Q) : E X d LW_law 1403 [a0, a1, a2, .int x] st h Q := Ev.iload_n (by decide +kernel : decode LW_law.2.1 1403 = .ok (.iload_n 3, 1)) rfl rfl kk
set_option maxRecDepth 20000 in
theorem LW_law_1404 {X : SX} {d : Nat} {L : List Value} {st : List Value} {h : HH} {Q : Int32 → HH → Prop}   (kk : E X d LW_law 1405 L (.int 5 :: st) h Q) : E X d LW_law 1404 L st h Q := Ev.iconst (by decide +kernel : decode LW_law.2.1 1404 = .ok (.iconst 5, 1)) (by decide) kk
set_option maxRecDepth 20000 in
theorem LW_law_1405 {X : SX} {d : Nat} {L : List Value} {st : List Value} {h : HH} {Q : Int32 → HH → Prop} {x z : Int32}  (kk : E X d LW_law 1406 L (.int (x + z) :: st) h Q) : E X d LW_law 1405 L (.int z :: .int x :: st) h Q := Ev.iadd (by decide +kernel : decode LW_law.2.1 1405 = .ok (.iadd, 1)) kk
set_option maxRecDepth 20000 in
theorem LW_law_1406 {X : SX} {d : Nat} {L : List Value} {st : List Value} {h : HH} {Q : Int32 → HH → Prop} {i : Int32} (hi : vp_in i X.1) (kk : E X d LW_law 1407 L (.int (X.2 i.toNatClampNeg) :: st) h Q) : E X d LW_law 1406 L (.int i :: .ref 1003 :: st) h Q := Ev.tScript (by decide +kernel : decode LW_law.2.1 1406 = .ok (.iaload, 1)) hi kk
set_option maxRecDepth 20000 in
theorem LW_law_1407 {X : SX} {d : Nat} {st : List Value} {h : HH} {Q : Int32 → HH → Prop} {a1 a2 a3 : Value}   (kk : E X d LW_law 1408 [.ref 1003, a1, a2, a3] (.ref 1003 :: st) h Q) : E X d LW_law 1407 [.ref 1003, a1, a2, a3] st h Q := Ev.aload_n (by decide +kernel : decode LW_law.2.1 1407 = .ok (.aload_n 0, 1)) rfl rfl kk
set_option maxRecDepth 20000 in
theorem LW_law_1408 {X : SX} {d : Nat} {st : List Value} {h : HH} {Q : Int32 → HH → Prop} {a0 a1 a2 : Value} {x : Int32}  (kk : E X d LW_law 1409 [a0, a1, a2, .int x] (.int x :: st) h Q) : E X d LW_law 1408 [a0, a1, a2, .int x] st h Q := Ev.iload_n (by decide +kernel : decode LW_law.2.1 1408 = .ok (.iload_n 3, 1)) rfl rfl kk
set_option maxRecDepth 20000 in
theorem LW_law_1409 {X : SX} {d : Nat} {L : List Value} {st : List Value} {h : HH} {Q : Int32 → HH → Prop}   (kk : E X d LW_law 1411 L (.int 6 :: st) h Q) : E X d LW_law 1409 L st h Q := Ev.bipush (by decide +kernel : decode LW_law.2.1 1409 = .ok (.bipush 6, 2)) (by decide +kernel) kk
set_option maxRecDepth 20000 in
theorem LW_law_1411 {X : SX} {d : Nat} {L : List Value} {st : List Value} {h : HH} {Q : Int32 → HH → Prop} {x z : Int32}  (kk : E X d LW_law 1412 L (.int (x + z) :: st) h Q) : E X d LW_law 1411 L (.int z :: .int x :: st) h Q := Ev.iadd (by decide +kernel : decode LW_law.2.1 1411 = .ok (.iadd, 1)) kk
set_option maxRecDepth 20000 in
theorem LW_law_1412 {X : SX} {d : Nat} {L : List Value} {st : List Value} {h : HH} {Q : Int32 → HH → Prop} {i : Int32} (hi : vp_in i X.1) (kk : E X d LW_law 1413 L (.int (X.2 i.toNatClampNeg) :: st) h Q) : E X d LW_law 1412 L (.int i :: .ref 1003 :: st) h Q := Ev.tScript (by decide +kernel : decode LW_law.2.1 1412 = .ok (.iaload, 1)) hi kk
set_option maxRecDepth 20000 in
theorem LW_law_1413 {X : SX} {d : Nat} {L : List Value} {st : List Value} {h : HH} {Q : Int32 → HH → Prop} {b0 : Int32} {b1 : Int32} {b2 : Int32} {b3 : Int32} {b4 : Int32} {b5 : Int32}   (hc : (st.map (fun v => v.category)).sum ≤ 8) (kk : E X d FM_signs 0 [.ref 57, .int b0, .int b1, .int b2, .int b3, .int b4, .int b5, U0] [] h (fun x h' => E X (d + 1) LW_law 1416 L (.int x :: st) h' Q)) : E X (d + 1) LW_law 1413 L (.int b5 :: .int b4 :: .int b3 :: .int b2 :: .int b1 :: .int b0 :: .ref 57 :: st) h Q := E.callVi (n := 6) (ix := 143) (args := [.int b0, .int b1, .int b2, .int b3, .int b4, .int b5]) (by decide +kernel : decode LW_law.2.1 1413 = .ok (.invokevirtual 143, 3)) FM_signs_ok rfl rfl rfl wd_1327 wd_1328 wd_1329 rfl FM_signs_ds (Nat.le_of_ble_eq_true rfl) hc (by decide) kk
set_option maxRecDepth 20000 in
theorem LW_law_1416 {X : SX} {d : Nat} {L : List Value} {st : List Value} {h : HH} {Q : Int32 → HH → Prop} {x z : Int32}  (kt : x = z → E X d LW_law 1477 L st h Q) (kf : ¬ x = z → E X d LW_law 1419 L st h Q) : E X d LW_law 1416 L (.int z :: .int x :: st) h Q := Ev.icmp_eq (tgt := 1477) (by decide +kernel : decode LW_law.2.1 1416 = .ok (.if_icmp .eq 61, 3)) (by decide) kt kf
set_option maxRecDepth 20000 in
theorem LW_law_1419 {X : SX} {d : Nat} {L : List Value} {st : List Value} {h : HH} {Q : Int32 → HH → Prop}   (kk : E X d LW_law 1420 L (.int 0 :: st) h Q) : E X d LW_law 1419 L st h Q := Ev.iconst (by decide +kernel : decode LW_law.2.1 1419 = .ok (.iconst 0, 1)) (by decide) kk
set_option maxRecDepth 20000 in
theorem LW_law_1420 {X : SX} {d : Nat} {L : List Value} {h : HH} {Q : Int32 → HH → Prop} {x : Int32} (hb : narrow .boolean (.int x) = .int x) (hq : Q x h)  : E X d LW_law 1420 L [.int x] h Q := Ev.ireturn (by decide +kernel : decode LW_law.2.1 1420 = .ok (.ireturn, 1)) rfl hb ⟨rfl, hq⟩
set_option maxRecDepth 20000 in
theorem LW_law_1421 {X : SX} {d : Nat} {st : List Value} {h : HH} {Q : Int32 → HH → Prop} {a0 a2 a3 : Value}   (kk : E X d LW_law 1422 [a0, .ref 0, a2, a3] (.ref 0 :: st) h Q) : E X d LW_law 1421 [a0, .ref 0, a2, a3] st h Q := Ev.aload_n (by decide +kernel : decode LW_law.2.1 1421 = .ok (.aload_n 1, 1)) rfl rfl kk
set_option maxRecDepth 20000 in
theorem LW_law_1422 {X : SX} {d : Nat} {st : List Value} {h : HH} {Q : Int32 → HH → Prop} {a1 a2 a3 : Value}   (kk : E X d LW_law 1423 [.ref 1003, a1, a2, a3] (.ref 1003 :: st) h Q) : E X d LW_law 1422 [.ref 1003, a1, a2, a3] st h Q := Ev.aload_n (by decide +kernel : decode LW_law.2.1 1422 = .ok (.aload_n 0, 1)) rfl rfl kk
set_option maxRecDepth 20000 in
theorem LW_law_1423 {X : SX} {d : Nat} {st : List Value} {h : HH} {Q : Int32 → HH → Prop} {a0 a1 a2 : Value} {x : Int32}  (kk : E X d LW_law 1424 [a0, a1, a2, .int x] (.int x :: st) h Q) : E X d LW_law 1423 [a0, a1, a2, .int x] st h Q := Ev.iload_n (by decide +kernel : decode LW_law.2.1 1423 = .ok (.iload_n 3, 1)) rfl rfl kk
set_option maxRecDepth 20000 in
theorem LW_law_1424 {X : SX} {d : Nat} {L : List Value} {st : List Value} {h : HH} {Q : Int32 → HH → Prop}   (kk : E X d LW_law 1425 L (.int 1 :: st) h Q) : E X d LW_law 1424 L st h Q := Ev.iconst (by decide +kernel : decode LW_law.2.1 1424 = .ok (.iconst 1, 1)) (by decide) kk
set_option maxRecDepth 20000 in
theorem LW_law_1425 {X : SX} {d : Nat} {L : List Value} {st : List Value} {h : HH} {Q : Int32 → HH → Prop} {x z : Int32}  (kk : E X d LW_law 1426 L (.int (x + z) :: st) h Q) : E X d LW_law 1425 L (.int z :: .int x :: st) h Q := Ev.iadd (by decide +kernel : decode LW_law.2.1 1425 = .ok (.iadd, 1)) kk
set_option maxRecDepth 20000 in
theorem LW_law_1426 {X : SX} {d : Nat} {L : List Value} {st : List Value} {h : HH} {Q : Int32 → HH → Prop} {i : Int32} (hi : vp_in i X.1) (kk : E X d LW_law 1427 L (.int (X.2 i.toNatClampNeg) :: st) h Q) : E X d LW_law 1426 L (.int i :: .ref 1003 :: st) h Q := Ev.tScript (by decide +kernel : decode LW_law.2.1 1426 = .ok (.iaload, 1)) hi kk
set_option maxRecDepth 20000 in
theorem LW_law_1427 {X : SX} {d : Nat} {st : List Value} {h : HH} {Q : Int32 → HH → Prop} {a1 a2 a3 : Value}   (kk : E X d LW_law 1428 [.ref 1003, a1, a2, a3] (.ref 1003 :: st) h Q) : E X d LW_law 1427 [.ref 1003, a1, a2, a3] st h Q := Ev.aload_n (by decide +kernel : decode LW_law.2.1 1427 = .ok (.aload_n 0, 1)) rfl rfl kk
set_option maxRecDepth 20000 in
theorem LW_law_1428 {X : SX} {d : Nat} {st : List Value} {h : HH} {Q : Int32 → HH → Prop} {a0 a1 a2 : Value} {x : Int32}  (kk : E X d LW_law 1429 [a0, a1, a2, .int x] (.int x :: st) h Q) : E X d LW_law 1428 [a0, a1, a2, .int x] st h Q := Ev.iload_n (by decide +kernel : decode LW_law.2.1 1428 = .ok (.iload_n 3, 1)) rfl rfl kk
set_option maxRecDepth 20000 in
theorem LW_law_1429 {X : SX} {d : Nat} {L : List Value} {st : List Value} {h : HH} {Q : Int32 → HH → Prop}   (kk : E X d LW_law 1430 L (.int 2 :: st) h Q) : E X d LW_law 1429 L st h Q := Ev.iconst (by decide +kernel : decode LW_law.2.1 1429 = .ok (.iconst 2, 1)) (by decide) kk
set_option maxRecDepth 20000 in
theorem LW_law_1430 {X : SX} {d : Nat} {L : List Value} {st : List Value} {h : HH} {Q : Int32 → HH → Prop} {x z : Int32}  (kk : E X d LW_law 1431 L (.int (x + z) :: st) h Q) : E X d LW_law 1430 L (.int z :: .int x :: st) h Q := Ev.iadd (by decide +kernel : decode LW_law.2.1 1430 = .ok (.iadd, 1)) kk
set_option maxRecDepth 20000 in
theorem LW_law_1431 {X : SX} {d : Nat} {L : List Value} {st : List Value} {h : HH} {Q : Int32 → HH → Prop} {i : Int32} (hi : vp_in i X.1) (kk : E X d LW_law 1432 L (.int (X.2 i.toNatClampNeg) :: st) h Q) : E X d LW_law 1431 L (.int i :: .ref 1003 :: st) h Q := Ev.tScript (by decide +kernel : decode LW_law.2.1 1431 = .ok (.iaload, 1)) hi kk
set_option maxRecDepth 20000 in
theorem LW_law_1432 {X : SX} {d : Nat} {st : List Value} {h : HH} {Q : Int32 → HH → Prop} {a1 a2 a3 : Value}   (kk : E X d LW_law 1433 [.ref 1003, a1, a2, a3] (.ref 1003 :: st) h Q) : E X d LW_law 1432 [.ref 1003, a1, a2, a3] st h Q := Ev.aload_n (by decide +kernel : decode LW_law.2.1 1432 = .ok (.aload_n 0, 1)) rfl rfl kk
set_option maxRecDepth 20000 in
theorem LW_law_1433 {X : SX} {d : Nat} {st : List Value} {h : HH} {Q : Int32 → HH → Prop} {a0 a1 a2 : Value} {x : Int32}  (kk : E X d LW_law 1434 [a0, a1, a2, .int x] (.int x :: st) h Q) : E X d LW_law 1433 [a0, a1, a2, .int x] st h Q := Ev.iload_n (by decide +kernel : decode LW_law.2.1 1433 = .ok (.iload_n 3, 1)) rfl rfl kk
set_option maxRecDepth 20000 in
theorem LW_law_1434 {X : SX} {d : Nat} {L : List Value} {st : List Value} {h : HH} {Q : Int32 → HH → Prop}   (kk : E X d LW_law 1435 L (.int 3 :: st) h Q) : E X d LW_law 1434 L st h Q := Ev.iconst (by decide +kernel : decode LW_law.2.1 1434 = .ok (.iconst 3, 1)) (by decide) kk
set_option maxRecDepth 20000 in
theorem LW_law_1435 {X : SX} {d : Nat} {L : List Value} {st : List Value} {h : HH} {Q : Int32 → HH → Prop} {x z : Int32}  (kk : E X d LW_law 1436 L (.int (x + z) :: st) h Q) : E X d LW_law 1435 L (.int z :: .int x :: st) h Q := Ev.iadd (by decide +kernel : decode LW_law.2.1 1435 = .ok (.iadd, 1)) kk
set_option maxRecDepth 20000 in
theorem LW_law_1436 {X : SX} {d : Nat} {L : List Value} {st : List Value} {h : HH} {Q : Int32 → HH → Prop} {i : Int32} (hi : vp_in i X.1) (kk : E X d LW_law 1437 L (.int (X.2 i.toNatClampNeg) :: st) h Q) : E X d LW_law 1436 L (.int i :: .ref 1003 :: st) h Q := Ev.tScript (by decide +kernel : decode LW_law.2.1 1436 = .ok (.iaload, 1)) hi kk
set_option maxRecDepth 20000 in
theorem LW_law_1437 {X : SX} {d : Nat} {L : List Value} {st : List Value} {h : HH} {Q : Int32 → HH → Prop} {b0 : Int32} {b1 : Int32} {b2 : Int32}   (hc : (st.map (fun v => v.category)).sum ≤ 8) (kk : E X d FC_forge 0 [.ref 0, .int b0, .int b1, .int b2] [] h (fun x h' => E X (d + 1) LW_law 1440 L (.int x :: st) h' Q)) : E X (d + 1) LW_law 1437 L (.int b2 :: .int b1 :: .int b0 :: .ref 0 :: st) h Q := E.callVi (n := 3) (ix := 144) (args := [.int b0, .int b1, .int b2]) (by decide +kernel : decode LW_law.2.1 1437 = .ok (.invokevirtual 144, 3)) FC_forge_ok rfl rfl rfl wd_808 wd_809 wd_810 rfl FC_forge_ds (Nat.le_of_ble_eq_true rfl) hc (by decide) kk
set_option maxRecDepth 20000 in
theorem LW_law_1440 {X : SX} {d : Nat} {st : List Value} {h : HH} {Q : Int32 → HH → Prop} {a0 a1 a3 : Value}   (kk : E X d LW_law 1441 [a0, a1, .ref 57, a3] (.ref 57 :: st) h Q) : E X d LW_law 1440 [a0, a1, .ref 57, a3] st h Q := Ev.aload_n (by decide +kernel : decode LW_law.2.1 1440 = .ok (.aload_n 2, 1)) rfl rfl kk
set_option maxRecDepth 20000 in
theorem LW_law_1441 {X : SX} {d : Nat} {st : List Value} {h : HH} {Q : Int32 → HH → Prop} {a1 a2 a3 : Value}   (kk : E X d LW_law 1442 [.ref 1003, a1, a2, a3] (.ref 1003 :: st) h Q) : E X d LW_law 1441 [.ref 1003, a1, a2, a3] st h Q := Ev.aload_n (by decide +kernel : decode LW_law.2.1 1441 = .ok (.aload_n 0, 1)) rfl rfl kk
set_option maxRecDepth 20000 in
theorem LW_law_1442 {X : SX} {d : Nat} {st : List Value} {h : HH} {Q : Int32 → HH → Prop} {a0 a1 a2 : Value} {x : Int32}  (kk : E X d LW_law 1443 [a0, a1, a2, .int x] (.int x :: st) h Q) : E X d LW_law 1442 [a0, a1, a2, .int x] st h Q := Ev.iload_n (by decide +kernel : decode LW_law.2.1 1442 = .ok (.iload_n 3, 1)) rfl rfl kk
set_option maxRecDepth 20000 in
theorem LW_law_1443 {X : SX} {d : Nat} {L : List Value} {st : List Value} {h : HH} {Q : Int32 → HH → Prop}   (kk : E X d LW_law 1444 L (.int 1 :: st) h Q) : E X d LW_law 1443 L st h Q := Ev.iconst (by decide +kernel : decode LW_law.2.1 1443 = .ok (.iconst 1, 1)) (by decide) kk
set_option maxRecDepth 20000 in
theorem LW_law_1444 {X : SX} {d : Nat} {L : List Value} {st : List Value} {h : HH} {Q : Int32 → HH → Prop} {x z : Int32}  (kk : E X d LW_law 1445 L (.int (x + z) :: st) h Q) : E X d LW_law 1444 L (.int z :: .int x :: st) h Q := Ev.iadd (by decide +kernel : decode LW_law.2.1 1444 = .ok (.iadd, 1)) kk
set_option maxRecDepth 20000 in
theorem LW_law_1445 {X : SX} {d : Nat} {L : List Value} {st : List Value} {h : HH} {Q : Int32 → HH → Prop} {i : Int32} (hi : vp_in i X.1) (kk : E X d LW_law 1446 L (.int (X.2 i.toNatClampNeg) :: st) h Q) : E X d LW_law 1445 L (.int i :: .ref 1003 :: st) h Q := Ev.tScript (by decide +kernel : decode LW_law.2.1 1445 = .ok (.iaload, 1)) hi kk
set_option maxRecDepth 20000 in
theorem LW_law_1446 {X : SX} {d : Nat} {st : List Value} {h : HH} {Q : Int32 → HH → Prop} {a1 a2 a3 : Value}   (kk : E X d LW_law 1447 [.ref 1003, a1, a2, a3] (.ref 1003 :: st) h Q) : E X d LW_law 1446 [.ref 1003, a1, a2, a3] st h Q := Ev.aload_n (by decide +kernel : decode LW_law.2.1 1446 = .ok (.aload_n 0, 1)) rfl rfl kk
set_option maxRecDepth 20000 in
theorem LW_law_1447 {X : SX} {d : Nat} {st : List Value} {h : HH} {Q : Int32 → HH → Prop} {a0 a1 a2 : Value} {x : Int32}  (kk : E X d LW_law 1448 [a0, a1, a2, .int x] (.int x :: st) h Q) : E X d LW_law 1447 [a0, a1, a2, .int x] st h Q := Ev.iload_n (by decide +kernel : decode LW_law.2.1 1447 = .ok (.iload_n 3, 1)) rfl rfl kk
set_option maxRecDepth 20000 in
theorem LW_law_1448 {X : SX} {d : Nat} {L : List Value} {st : List Value} {h : HH} {Q : Int32 → HH → Prop}   (kk : E X d LW_law 1449 L (.int 2 :: st) h Q) : E X d LW_law 1448 L st h Q := Ev.iconst (by decide +kernel : decode LW_law.2.1 1448 = .ok (.iconst 2, 1)) (by decide) kk
set_option maxRecDepth 20000 in
theorem LW_law_1449 {X : SX} {d : Nat} {L : List Value} {st : List Value} {h : HH} {Q : Int32 → HH → Prop} {x z : Int32}  (kk : E X d LW_law 1450 L (.int (x + z) :: st) h Q) : E X d LW_law 1449 L (.int z :: .int x :: st) h Q := Ev.iadd (by decide +kernel : decode LW_law.2.1 1449 = .ok (.iadd, 1)) kk
set_option maxRecDepth 20000 in
theorem LW_law_1450 {X : SX} {d : Nat} {L : List Value} {st : List Value} {h : HH} {Q : Int32 → HH → Prop} {i : Int32} (hi : vp_in i X.1) (kk : E X d LW_law 1451 L (.int (X.2 i.toNatClampNeg) :: st) h Q) : E X d LW_law 1450 L (.int i :: .ref 1003 :: st) h Q := Ev.tScript (by decide +kernel : decode LW_law.2.1 1450 = .ok (.iaload, 1)) hi kk
set_option maxRecDepth 20000 in
theorem LW_law_1451 {X : SX} {d : Nat} {st : List Value} {h : HH} {Q : Int32 → HH → Prop} {a1 a2 a3 : Value}   (kk : E X d LW_law 1452 [.ref 1003, a1, a2, a3] (.ref 1003 :: st) h Q) : E X d LW_law 1451 [.ref 1003, a1, a2, a3] st h Q := Ev.aload_n (by decide +kernel : decode LW_law.2.1 1451 = .ok (.aload_n 0, 1)) rfl rfl kk
set_option maxRecDepth 20000 in
theorem LW_law_1452 {X : SX} {d : Nat} {st : List Value} {h : HH} {Q : Int32 → HH → Prop} {a0 a1 a2 : Value} {x : Int32}  (kk : E X d LW_law 1453 [a0, a1, a2, .int x] (.int x :: st) h Q) : E X d LW_law 1452 [a0, a1, a2, .int x] st h Q := Ev.iload_n (by decide +kernel : decode LW_law.2.1 1452 = .ok (.iload_n 3, 1)) rfl rfl kk
set_option maxRecDepth 20000 in
theorem LW_law_1453 {X : SX} {d : Nat} {L : List Value} {st : List Value} {h : HH} {Q : Int32 → HH → Prop}   (kk : E X d LW_law 1454 L (.int 3 :: st) h Q) : E X d LW_law 1453 L st h Q := Ev.iconst (by decide +kernel : decode LW_law.2.1 1453 = .ok (.iconst 3, 1)) (by decide) kk
set_option maxRecDepth 20000 in
theorem LW_law_1454 {X : SX} {d : Nat} {L : List Value} {st : List Value} {h : HH} {Q : Int32 → HH → Prop} {x z : Int32}  (kk : E X d LW_law 1455 L (.int (x + z) :: st) h Q) : E X d LW_law 1454 L (.int z :: .int x :: st) h Q := Ev.iadd (by decide +kernel : decode LW_law.2.1 1454 = .ok (.iadd, 1)) kk
set_option maxRecDepth 20000 in
theorem LW_law_1455 {X : SX} {d : Nat} {L : List Value} {st : List Value} {h : HH} {Q : Int32 → HH → Prop} {i : Int32} (hi : vp_in i X.1) (kk : E X d LW_law 1456 L (.int (X.2 i.toNatClampNeg) :: st) h Q) : E X d LW_law 1455 L (.int i :: .ref 1003 :: st) h Q := Ev.tScript (by decide +kernel : decode LW_law.2.1 1455 = .ok (.iaload, 1)) hi kk
set_option maxRecDepth 20000 in
theorem LW_law_1456 {X : SX} {d : Nat} {L : List Value} {st : List Value} {h : HH} {Q : Int32 → HH → Prop} {b0 : Int32} {b1 : Int32} {b2 : Int32}   (hc : (st.map (fun v => v.category)).sum ≤ 8) (kk : E X d FM_forge 0 [.ref 57, .int b0, .int b1, .int b2, U0] [] h (fun x h' => E X (d + 1) LW_law 1459 L (.int x :: st) h' Q)) : E X (d + 1) LW_law 1456 L (.int b2 :: .int b1 :: .int b0 :: .ref 57 :: st) h Q := E.callVi (n := 3) (ix := 147) (args := [.int b0, .int b1, .int b2]) (by decide +kernel : decode LW_law.2.1 1456 = .ok (.invokevirtual 147, 3)) FM_forge_ok rfl rfl rfl wd_1331 wd_1332 wd_1333 rfl FM_forge_ds (Nat.le_of_ble_eq_true rfl) hc (by decide) kk
set_option maxRecDepth 20000 in
theorem LW_law_1459 {X : SX} {d : Nat} {L : List Value} {st : List Value} {h : HH} {Q : Int32 → HH → Prop} {x z : Int32}  (kt : x = z → E X d LW_law 1477 L st h Q) (kf : ¬ x = z → E X d LW_law 1462 L st h Q) : E X d LW_law 1459 L (.int z :: .int x :: st) h Q := Ev.icmp_eq (tgt := 1477) (by decide +kernel : decode LW_law.2.1 1459 = .ok (.if_icmp .eq 18, 3)) (by decide) kt kf
set_option maxRecDepth 20000 in
theorem LW_law_1462 {X : SX} {d : Nat} {L : List Value} {st : List Value} {h : HH} {Q : Int32 → HH → Prop}   (kk : E X d LW_law 1463 L (.int 0 :: st) h Q) : E X d LW_law 1462 L st h Q := Ev.iconst (by decide +kernel : decode LW_law.2.1 1462 = .ok (.iconst 0, 1)) (by decide) kk
set_option maxRecDepth 20000 in
theorem LW_law_1463 {X : SX} {d : Nat} {L : List Value} {h : HH} {Q : Int32 → HH → Prop} {x : Int32} (hb : narrow .boolean (.int x) = .int x) (hq : Q x h)  : E X d LW_law 1463 L [.int x] h Q := Ev.ireturn (by decide +kernel : decode LW_law.2.1 1463 = .ok (.ireturn, 1)) rfl hb ⟨rfl, hq⟩
set_option maxRecDepth 20000 in
theorem LW_law_1464 {X : SX} {d : Nat} {st : List Value} {h : HH} {Q : Int32 → HH → Prop} {a0 a2 a3 : Value}   (kk : E X d LW_law 1465 [a0, .ref 0, a2, a3] (.ref 0 :: st) h Q) : E X d LW_law 1464 [a0, .ref 0, a2, a3] st h Q := Ev.aload_n (by decide +kernel : decode LW_law.2.1 1464 = .ok (.aload_n 1, 1)) rfl rfl kk
set_option maxRecDepth 20000 in
theorem LW_law_1465 {X : SX} {d : Nat} {L : List Value} {st : List Value} {h : HH} {Q : Int32 → HH → Prop}   (hc : (st.map (fun v => v.category)).sum ≤ 8) (kk : E X d FC_status 0 [.ref 0] [] h (fun x h' => E X (d + 1) LW_law 1468 L (.int x :: st) h' Q)) : E X (d + 1) LW_law 1465 L (.ref 0 :: st) h Q := E.callVi (n := 0) (ix := 148) (args := []) (by decide +kernel : decode LW_law.2.1 1465 = .ok (.invokevirtual 148, 3)) FC_status_ok rfl rfl rfl wd_839 wd_840 wd_841 rfl FC_status_ds (Nat.le_of_ble_eq_true rfl) hc (by decide) kk
set_option maxRecDepth 20000 in
theorem LW_law_1468 {X : SX} {d : Nat} {st : List Value} {h : HH} {Q : Int32 → HH → Prop} {a0 a1 a3 : Value}   (kk : E X d LW_law 1469 [a0, a1, .ref 57, a3] (.ref 57 :: st) h Q) : E X d LW_law 1468 [a0, a1, .ref 57, a3] st h Q := Ev.aload_n (by decide +kernel : decode LW_law.2.1 1468 = .ok (.aload_n 2, 1)) rfl rfl kk
set_option maxRecDepth 20000 in
theorem LW_law_1469 {X : SX} {d : Nat} {L : List Value} {st : List Value} {h : HH} {Q : Int32 → HH → Prop}   (hc : (st.map (fun v => v.category)).sum ≤ 8) (kk : E X d FM_status 0 [.ref 57] [] h (fun x h' => E X (d + 1) LW_law 1472 L (.int x :: st) h' Q)) : E X (d + 1) LW_law 1469 L (.ref 57 :: st) h Q := E.callVi (n := 0) (ix := 151) (args := []) (by decide +kernel : decode LW_law.2.1 1469 = .ok (.invokevirtual 151, 3)) FM_status_ok rfl rfl rfl wd_1350 wd_1351 wd_1352 rfl FM_status_ds (Nat.le_of_ble_eq_true rfl) hc (by decide) kk
set_option maxRecDepth 20000 in
theorem LW_law_1472 {X : SX} {d : Nat} {L : List Value} {st : List Value} {h : HH} {Q : Int32 → HH → Prop} {x z : Int32}  (kt : x = z → E X d LW_law 1477 L st h Q) (kf : ¬ x = z → E X d LW_law 1475 L st h Q) : E X d LW_law 1472 L (.int z :: .int x :: st) h Q := Ev.icmp_eq (tgt := 1477) (by decide +kernel : decode LW_law.2.1 1472 = .ok (.if_icmp .eq 5, 3)) (by decide) kt kf
set_option maxRecDepth 20000 in
theorem LW_law_1475 {X : SX} {d : Nat} {L : List Value} {st : List Value} {h : HH} {Q : Int32 → HH → Prop}   (kk : E X d LW_law 1476 L (.int 0 :: st) h Q) : E X d LW_law 1475 L st h Q := Ev.iconst (by decide +kernel : decode LW_law.2.1 1475 = .ok (.iconst 0, 1)) (by decide) kk
set_option maxRecDepth 20000 in
theorem LW_law_1476 {X : SX} {d : Nat} {L : List Value} {h : HH} {Q : Int32 → HH → Prop} {x : Int32} (hb : narrow .boolean (.int x) = .int x) (hq : Q x h)  : E X d LW_law 1476 L [.int x] h Q := Ev.ireturn (by decide +kernel : decode LW_law.2.1 1476 = .ok (.ireturn, 1)) rfl hb ⟨rfl, hq⟩
set_option maxRecDepth 20000 in
theorem LW_law_1477 {X : SX} {d : Nat} {st : List Value} {h : HH} {Q : Int32 → HH → Prop} {a0 a1 : Value} {x : Int32}  (kk : E X d LW_law 1480 [a0, a1, .ref 57, .int (x + 7)] st h Q) : E X d LW_law 1477 [a0, a1, .ref 57, .int x] st h Q := Ev.iinc (by decide +kernel : decode LW_law.2.1 1477 = .ok (.iinc 3 7, 3)) rfl rfl (by decide) rfl kk
set_option maxRecDepth 20000 in
theorem LW_law_1480 {X : SX} {d : Nat} {L : List Value} {st : List Value} {h : HH} {Q : Int32 → HH → Prop}   (kk : E X d LW_law 18 L st h Q) : E X d LW_law 1480 L st h Q := Ev.goto (tgt := 18) (by decide +kernel : decode LW_law.2.1 1480 = .ok (.goto (-1462), 3)) (by decide) kk
set_option maxRecDepth 20000 in
theorem LW_law_1483 {X : SX} {d : Nat} {L : List Value} {st : List Value} {h : HH} {Q : Int32 → HH → Prop}   (kk : E X d LW_law 1484 L (.int 1 :: st) h Q) : E X d LW_law 1483 L st h Q := Ev.iconst (by decide +kernel : decode LW_law.2.1 1483 = .ok (.iconst 1, 1)) (by decide) kk
set_option maxRecDepth 20000 in
theorem LW_law_1484 {X : SX} {d : Nat} {L : List Value} {h : HH} {Q : Int32 → HH → Prop} {x : Int32} (hb : narrow .boolean (.int x) = .int x) (hq : Q x h)  : E X d LW_law 1484 L [.int x] h Q := Ev.ireturn (by decide +kernel : decode LW_law.2.1 1484 = .ok (.ireturn, 1)) rfl hb ⟨rfl, hq⟩
