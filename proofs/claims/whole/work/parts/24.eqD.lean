/-! what each stretch does (by program) -/
set_option maxRecDepth 100000 in
set_option maxHeartbeats 4000000 in
theorem e_X9_init (d : Nat) (a0 : Nat) (x1 : Int32) (σ : am_H) : f_X9_init d a0 x1 σ =
    (am_nwa σ 1 (nI 30)).bind fun s1 =>
    (am_pR s1 a0 9 7 (am_n σ)).bind fun s2 =>
    (am_nwa s2 1 (nI 30)).bind fun s3 =>
    (am_pR s3 a0 9 8 (am_n s2)).bind fun s4 =>
    (am_nwa s4 1 (nI 30)).bind fun s5 =>
    (am_pR s5 a0 9 9 (am_n s4)).bind fun s6 =>
    (am_nwa s6 1 (nI 30)).bind fun s7 =>
    (am_pR s7 a0 9 10 (am_n s6)).bind fun s8 =>
    (am_nwa s8 1 (nI 30)).bind fun s9 =>
    (am_pR s9 a0 9 11 (am_n s8)).bind fun s10 =>
    (am_nwa s10 3 (nI 30)).bind fun s11 =>
    (am_pR s11 a0 9 12 (am_n s10)).bind fun s12 =>
    (am_nwa s12 2 (nI 30)).bind fun s13 =>
    (am_pR s13 a0 9 13 (am_n s12)).bind fun s14 =>
    (am_nwa s14 2 (nI 30)).bind fun s15 =>
    (am_pR s15 a0 9 14 (am_n s14)).bind fun s16 =>
    (am_nwa s16 1 (nI 30)).bind fun s17 =>
    (am_pR s17 a0 9 15 (am_n s16)).bind fun s18 =>
    (am_nwa s18 1 (nI 1800)).bind fun s19 =>
    (am_pR s19 a0 9 16 (am_n s18)).bind fun s20 =>
    (am_nwa s20 1 (nI 30)).bind fun s21 =>
    (am_pR s21 a0 9 17 (am_n s20)).bind fun s22 =>
    (am_nwa s22 2 (nI 120)).bind fun s23 =>
    (am_pR s23 a0 9 18 (am_n s22)).bind fun s24 =>
    (am_nwa s24 3 (nI 120)).bind fun s25 =>
    (am_pR s25 a0 9 19 (am_n s24)).bind fun s26 =>
    (am_nwa s26 3 (nI 120)).bind fun s27 =>
    (am_pR s27 a0 9 20 (am_n s26)).bind fun s28 =>
    (am_nwa s28 1 (nI 30)).bind fun s29 =>
    (am_pR s29 a0 9 21 (am_n s28)).bind fun s30 =>
    (am_nwa s30 1 (nI 1800)).bind fun s31 =>
    (am_pR s31 a0 9 22 (am_n s30)).bind fun s32 =>
    (am_nwa s32 2 (nI 90)).bind fun s33 =>
    (am_pR s33 a0 9 23 (am_n s32)).bind fun s34 =>
    (am_nwa s34 2 (nI 10)).bind fun s35 =>
    (am_pR s35 a0 9 26 (am_n s34)).bind fun s36 =>
    (am_nwa s36 1 (nI 10)).bind fun s37 =>
    (am_pR s37 a0 9 27 (am_n s36)).bind fun s38 =>
    (am_nwa s38 1 (nI 600)).bind fun s39 =>
    (am_pR s39 a0 9 28 (am_n s38)).bind fun s40 =>
    (am_nwa s40 2 (nI 10)).bind fun s41 =>
    (am_pR s41 a0 9 29 (am_n s40)).bind fun s42 =>
    (am_nwa s42 2 (nI 30)).bind fun s43 =>
    (am_pR s43 a0 9 30 (am_n s42)).bind fun s44 =>
    (am_nwa s44 1 (nI 10)).bind fun s45 =>
    (am_pR s45 a0 9 31 (am_n s44)).bind fun s46 =>
    (am_nwa s46 3 (nI 30)).bind fun s47 =>
    (am_pR s47 a0 9 32 (am_n s46)).bind fun s48 =>
    (am_nwa s48 3 (nI 30)).bind fun s49 =>
    (am_pR s49 a0 9 33 (am_n s48)).bind fun s50 =>
    (am_nwa s50 2 (nI 30)).bind fun s51 =>
    (am_pR s51 a0 9 34 (am_n s50)).bind fun s52 =>
    (am_nwa s52 2 (nI 30)).bind fun s53 =>
    (am_pR s53 a0 9 35 (am_n s52)).bind fun s54 =>
    (am_nwa s54 2 (nI 90)).bind fun s55 =>
    (am_pR s55 a0 9 36 (am_n s54)).bind fun s56 =>
    (am_nwa s56 1 (nI 30)).bind fun s57 =>
    (am_pR s57 a0 9 37 (am_n s56)).bind fun s58 =>
    (am_nwa s58 1 (nI 1800)).bind fun s59 =>
    (am_pR s59 a0 9 38 (am_n s58)).bind fun s60 =>
    (am_nwa s60 1 (nI 30)).bind fun s61 =>
    (am_pR s61 a0 9 39 (am_n s60)).bind fun s62 =>
    (am_nwa s62 1 (nI 8400)).bind fun s63 =>
    (am_pR s63 a0 9 40 (am_n s62)).bind fun s64 =>
    (am_nwa s64 1 (nI 2)).bind fun s65 =>
    (am_pR s65 a0 9 41 (am_n s64)).bind fun s66 =>
    (am_nwa s66 1 (nI 2)).bind fun s67 =>
    (am_pR s67 a0 9 42 (am_n s66)).bind fun s68 =>
    (am_nwa s68 1 (nI 1800)).bind fun s69 =>
    (am_pR s69 a0 9 43 (am_n s68)).bind fun s70 =>
    (am_nwa s70 1 (nI 2)).bind fun s71 =>
    (am_pR s71 a0 9 44 (am_n s70)).bind fun s72 =>
    (am_nwa s72 1 (nI 2)).bind fun s73 =>
    (am_pR s73 a0 9 45 (am_n s72)).bind fun s74 =>
    (am_nwa s74 1 (nI 128)).bind fun s75 =>
    (am_pR s75 a0 9 46 (am_n s74)).bind fun s76 =>
    (am_nwa s76 1 (nI 2)).bind fun s77 =>
    (am_pR s77 a0 9 47 (am_n s76)).bind fun s78 =>
    (am_nwa s78 1 (nI 64)).bind fun s79 =>
    (am_pR s79 a0 9 48 (am_n s78)).bind fun s80 =>
    bif decide ((nI 8) ≤ x1) then
      bif decide (x1 ≤ (nI 40)) then
        (am_pI s80 a0 9 1 x1).bind fun s81 =>
        some ((0, 0, none), s81)
      else
        (am_pI s80 a0 9 1 (nI 40)).bind fun s82 =>
        some ((0, 0, none), s82)
    else
      (am_pI s80 a0 9 1 (nI 8)).bind fun s83 =>
      some ((0, 0, none), s83) := (am_L_it d 110 178 true 0 [(0, .ref a0), (1, .int x1)] [] σ).symm
set_option maxRecDepth 100000 in
set_option maxHeartbeats 4000000 in
theorem e_X9_thrown (d : Nat) (a0 : Nat) (σ : am_H) : f_X9_thrown d a0 σ =
    (am_gI σ a0 9 0).bind fun v1 =>
    some ((v1, 0, none), σ) := (am_L_it d 111 5 true 0 [(0, .ref a0)] [] σ).symm
set_option maxRecDepth 100000 in
set_option maxHeartbeats 4000000 in
theorem e_X9_isCall (d : Nat) (a0 : Nat) (x1 : Int32) (σ : am_H) : f_X9_isCall d a0 x1 σ =
    bif decide (x1 < nI 0) then
      bif am_zb (nI 0) then some (((nI 0), 0, none), σ) else none
    else
      (am_gI σ a0 9 6).bind fun v1 =>
      bif decide (v1 ≤ x1) then
        bif am_zb (nI 0) then some (((nI 0), 0, none), σ) else none
      else
        bif am_zb (nI 1) then some (((nI 1), 0, none), σ) else none := (am_L_it d 112 12 true 0 [(0, .ref a0), (1, .int x1)] [] σ).symm
set_option maxRecDepth 100000 in
set_option maxHeartbeats 4000000 in
theorem e_X9_goesOn (d : Nat) (a0 : Nat) (x1 : Int32) (σ : am_H) : f_X9_goesOn d a0 x1 σ =
    (am_gR σ a0 9 12).bind fun k1 =>
    (am_ldI σ k1 3 x1).bind fun v2 =>
    bif decide (v2 = nI 0) then
      bif am_zb (nI 0) then some (((nI 0), 0, none), σ) else none
    else
      (am_gR σ a0 9 8).bind fun k3 =>
      (am_ldI σ k3 1 x1).bind fun v4 =>
      bif decide (¬ v4 = nI 0) then
        bif am_zb (nI 0) then some (((nI 0), 0, none), σ) else none
      else
        bif am_zb (nI 1) then some (((nI 1), 0, none), σ) else none := (am_L_it d 113 16 true 0 [(0, .ref a0), (1, .int x1)] [] σ).symm
set_option maxRecDepth 100000 in
set_option maxHeartbeats 4000000 in
theorem e_X9_digestOf (d : Nat) (a0 : Nat) (x1 : Int32) (x2 : Int32) (σ : am_H) : f_X9_digestOf d a0 x1 x2 σ =
    l_X9_digestOf_6 d a0 x1 x2 (Int32.toInt64 x2) x1 σ := (am_L_it d 114 25 true 0 [(0, .ref a0), (1, .int x1), (2, .int x2)] [] σ).symm
set_option maxRecDepth 100000 in
set_option maxHeartbeats 4000000 in
theorem e_X9_digestTold (d : Nat) (a0 : Nat) (x1 : Int32) (σ : am_H) : f_X9_digestTold (d + 1) a0 x1 σ =
    (am_gR σ a0 9 16).bind fun k1 =>
    (am_gR σ a0 9 15).bind fun k2 =>
    (am_ldI σ k2 1 x1).bind fun v3 =>
    (f_X9_digestOf d k1 ((nI 60) * x1) v3 σ).bind fun r4 =>
    some ((0, r4.1.2.1, none), r4.2) := (am_L_it (d + 1) 115 13 true 0 [(0, .ref a0), (1, .int x1)] [] σ).symm
set_option maxRecDepth 100000 in
set_option maxHeartbeats 4000000 in
theorem e_X9_frameOf (d : Nat) (a0 : Nat) (x1 : Int32) (x2 : Int32) (x3 : Int32) (σ : am_H) : f_X9_frameOf d a0 x1 x2 x3 σ =
    (am_gR σ a0 9 48).bind fun k1 =>
    (am_stI σ k1 (nI 1) x1).bind fun s2 =>
    (am_gR s2 a0 9 48).bind fun k3 =>
    (am_stI s2 k3 (nI 2) x2).bind fun s4 =>
    (am_gR s4 a0 9 48).bind fun k5 =>
    (am_stI s4 k5 (nI 3) x3).bind fun s6 =>
    (am_pI s6 a0 9 49 (nI 4)).bind fun s7 =>
    some ((0, 0, none), s7) := (am_L_it d 116 21 true 0 [(0, .ref a0), (1, .int x1), (2, .int x2), (3, .int x3)] [] σ).symm
set_option maxRecDepth 100000 in
set_option maxHeartbeats 4000000 in
theorem e_X9_put (d : Nat) (a0 : Nat) (x1 : Int32) (σ : am_H) : f_X9_put d a0 x1 σ =
    (am_gR σ a0 9 48).bind fun k1 =>
    (am_gI σ a0 9 49).bind fun v2 =>
    (am_stI σ k1 v2 x1).bind fun s3 =>
    (am_gI s3 a0 9 49).bind fun v4 =>
    (am_pI s3 a0 9 49 (v4 + (nI 1))).bind fun s5 =>
    some ((0, 0, none), s5) := (am_L_it d 117 15 true 0 [(0, .ref a0), (1, .int x1)] [] σ).symm
set_option maxRecDepth 100000 in
set_option maxHeartbeats 4000000 in
theorem e_X9_putLong (d : Nat) (a0 : Nat) (j1 : Int64) (σ : am_H) : f_X9_putLong (d + 1) a0 j1 σ =
    l_X9_putLong_3 (d + 1) a0 j1 (nI 56) σ := (am_L_it (d + 1) 118 17 true 0 [(0, .ref a0), (1, .long j1)] [] σ).symm
set_option maxRecDepth 100000 in
set_option maxHeartbeats 4000000 in
theorem e_X9_send (d : Nat) (a0 : Nat) (x1 : Int32) (σ : am_H) : f_X9_send (d + 1) a0 x1 σ =
    (am_gR σ a0 9 48).bind fun k1 =>
    (am_gI σ a0 9 49).bind fun v2 =>
    (am_stI σ k1 (nI 0) v2).bind fun s3 =>
    l_X9_send_14 (d + 1) a0 x1 (nI 0) (nI 0) s3 := (am_L_it (d + 1) 119 157 true 0 [(0, .ref a0), (1, .int x1)] [] σ).symm
set_option maxRecDepth 100000 in
set_option maxHeartbeats 4000000 in
theorem e_X9_sendLong (d : Nat) (a0 : Nat) (x1 : Int32) (x2 : Int32) (x3 : Int32) (x4 : Int32) (j5 : Int64) (σ : am_H) : f_X9_sendLong (d + 1) a0 x1 x2 x3 x4 j5 σ =
    bif am_is σ a0 9 then
      (f_X9_frameOf d a0 x2 x3 x4 σ).bind fun r1 =>
      bif am_is r1.2 a0 9 then
        (f_X9_putLong d a0 j5 r1.2).bind fun r2 =>
        bif am_is r2.2 a0 9 then
          (f_X9_send d a0 x1 r2.2).bind fun r3 =>
          some ((0, 0, none), r3.2)
        else none
      else none
    else none := (am_L_it (d + 1) 120 14 true 0 [(0, .ref a0), (1, .int x1), (2, .int x2), (3, .int x3), (4, .int x4), (5, .long j5)] [] σ).symm
set_option maxRecDepth 100000 in
set_option maxHeartbeats 4000000 in
theorem e_X9_sendPlain (d : Nat) (a0 : Nat) (x1 : Int32) (x2 : Int32) (x3 : Int32) (x4 : Int32) (σ : am_H) : f_X9_sendPlain (d + 1) a0 x1 x2 x3 x4 σ =
    bif am_is σ a0 9 then
      (f_X9_frameOf d a0 x2 x3 x4 σ).bind fun r1 =>
      bif am_is r1.2 a0 9 then
        (f_X9_send d a0 x1 r1.2).bind fun r2 =>
        some ((0, 0, none), r2.2)
      else none
    else none := (am_L_it (d + 1) 121 11 true 0 [(0, .ref a0), (1, .int x1), (2, .int x2), (3, .int x3), (4, .int x4)] [] σ).symm
set_option maxRecDepth 100000 in
set_option maxHeartbeats 4000000 in
theorem e_X9_sendByte (d : Nat) (a0 : Nat) (x1 : Int32) (x2 : Int32) (x3 : Int32) (x4 : Int32) (x5 : Int32) (σ : am_H) : f_X9_sendByte (d + 1) a0 x1 x2 x3 x4 x5 σ =
    bif am_is σ a0 9 then
      (f_X9_frameOf d a0 x2 x3 x4 σ).bind fun r1 =>
      bif am_is r1.2 a0 9 then
        (f_X9_put d a0 x5 r1.2).bind fun r2 =>
        bif am_is r2.2 a0 9 then
          (f_X9_send d a0 x1 r2.2).bind fun r3 =>
          some ((0, 0, none), r3.2)
        else none
      else none
    else none := (am_L_it (d + 1) 122 14 true 0 [(0, .ref a0), (1, .int x1), (2, .int x2), (3, .int x3), (4, .int x4), (5, .int x5)] [] σ).symm
set_option maxRecDepth 100000 in
set_option maxHeartbeats 4000000 in
theorem e_X9_error (d : Nat) (a0 : Nat) (x1 : Int32) (x2 : Int32) (σ : am_H) : f_X9_error (d + 1) a0 x1 x2 σ =
    bif am_is σ a0 9 then
      (f_X9_sendByte d a0 (nI 1) x1 (nI 13) (nI 0) x2 σ).bind fun r1 =>
      some ((0, 0, none), r1.2)
    else none := (am_L_it (d + 1) 123 10 true 0 [(0, .ref a0), (1, .int x1), (2, .int x2)] [] σ).symm
set_option maxRecDepth 100000 in
set_option maxHeartbeats 4000000 in
theorem e_X9_pieces (d : Nat) (a0 : Nat) (x1 : Int32) (x2 : Int32) (a3 : Nat) (x4 : Int32) (x5 : Int32) (x6 : Int32) (σ : am_H) : f_X9_pieces (d + 1) a0 x1 x2 a3 x4 x5 x6 σ =
    l_X9_pieces_4 (d + 1) a0 x1 x2 a3 x4 x5 x6 σ := (am_L_it (d + 1) 124 48 true 0 [(0, .ref a0), (1, .int x1), (2, .int x2), (3, .ref a3), (4, .int x4), (5, .int x5), (6, .int x6)] [] σ).symm
set_option maxRecDepth 100000 in
set_option maxHeartbeats 4000000 in
theorem e_X9_ends (d : Nat) (a0 : Nat) (x1 : Int32) (x2 : Int32) (σ : am_H) : f_X9_ends d a0 x1 x2 σ =
    (am_gR σ a0 9 8).bind fun k1 =>
    (am_stI σ k1 x1 x2).bind fun s2 =>
    (am_gR s2 a0 9 10).bind fun k3 =>
    (am_stI s2 k3 x1 (nI 0)).bind fun s4 =>
    some ((0, 0, none), s4) := (am_L_it d 125 13 true 0 [(0, .ref a0), (1, .int x1), (2, .int x2)] [] σ).symm
set_option maxRecDepth 100000 in
set_option maxHeartbeats 4000000 in
theorem e_X9_answers (d : Nat) (a0 : Nat) (x1 : Int32) (σ : am_H) : f_X9_answers d a0 x1 σ =
    l_X9_answers_4 d a0 x1 (nI 0) (nI 0) σ := (am_L_it d 126 31 true 0 [(0, .ref a0), (1, .int x1)] [] σ).symm
set_option maxRecDepth 100000 in
set_option maxHeartbeats 4000000 in
theorem e_X9_namedBy (d : Nat) (a0 : Nat) (x1 : Int32) (σ : am_H) : f_X9_namedBy (d + 1) a0 x1 σ =
    (am_gR σ a0 9 7).bind fun k1 =>
    (am_ldI σ k1 1 x1).bind fun v2 =>
    bif decide (¬ v2 = (nI 1)) then
      (am_gR σ a0 9 17).bind fun k3 =>
      (am_ldI σ k3 1 x1).bind fun v4 =>
      bif decide (v4 ≤ nI 0) then
        some ((0, (lN 0), none), σ)
      else
        (am_gR σ a0 9 18).bind fun k5 =>
        (am_ldJ σ k5 ((nI 4) * x1)).bind fun w6 =>
        some ((0, w6, none), σ)
    else
      bif am_is σ a0 9 then
        (f_X9_digestTold d a0 x1 σ).bind fun r7 =>
        (am_gR r7.2 a0 9 14).bind fun k8 =>
        (am_ldJ r7.2 k8 x1).bind fun w9 =>
        some ((0, (r7.1.2.1 ^^^ w9), none), r7.2)
      else none := (am_L_it (d + 1) 127 31 true 0 [(0, .ref a0), (1, .int x1)] [] σ).symm
set_option maxRecDepth 100000 in
set_option maxHeartbeats 4000000 in
theorem e_X9_open (d : Nat) (a0 : Nat) (x1 : Int32) (σ : am_H) : f_X9_open (d + 1) a0 x1 σ =
    (am_gR σ a0 9 7).bind fun k1 =>
    (am_ldI σ k1 1 x1).bind fun v2 =>
    bif decide (v2 = nI 0) then
      l_X9_open_38 (d + 1) a0 x1 (nI 0) σ
    else
    bif decide (v2 = nI 1) then
      bif am_is σ a0 9 then
        (f_X9_namedBy d a0 x1 σ).bind fun r3 =>
        bif am_is r3.2 a0 9 then
          (f_X9_sendLong d a0 (nI 0) x1 (nI 1) (nI 0) r3.1.2.1 r3.2).bind fun r4 =>
          some ((0, 0, none), r4.2)
        else none
      else none
    else
    bif decide (v2 = nI 2) then
      (am_gR σ a0 9 21).bind fun k5 =>
      (am_ldI σ k5 1 x1).bind fun v6 =>
      bif am_is σ a0 9 then
        (f_X9_namedBy d a0 x1 σ).bind fun r7 =>
        bif am_is r7.2 a0 9 then
          (f_X9_sendLong d a0 (nI 0) x1 (nI 2) v6 r7.1.2.1 r7.2).bind fun r8 =>
          some ((0, 0, none), r8.2)
        else none
      else none
    else
    bif decide (v2 = nI 3) then
      (am_gR σ a0 9 21).bind fun k9 =>
      (am_stI σ k9 x1 (nI 0)).bind fun s10 =>
      (am_gR s10 a0 9 13).bind fun k11 =>
      (am_ldJ s10 k11 x1).bind fun w12 =>
      bif am_is s10 a0 9 then
        (f_X9_sendLong d a0 (nI 0) x1 (nI 3) (nI 0) w12 s10).bind fun r13 =>
        some ((0, 0, none), r13.2)
      else none
    else
      (am_gR σ a0 9 13).bind fun k14 =>
      (am_ldJ σ k14 x1).bind fun w15 =>
      bif am_is σ a0 9 then
        (f_X9_sendLong d a0 (nI 0) x1 (nI 4) (nI 0) w15 σ).bind fun r16 =>
        l_X9_open_180 (d + 1) a0 x1 (nI 0) r16.2
      else none := (am_L_it (d + 1) 128 133 true 0 [(0, .ref a0), (1, .int x1)] [] σ).symm
set_option maxRecDepth 100000 in
set_option maxHeartbeats 4000000 in
theorem e_X9_hold (d : Nat) (a0 : Nat) (x1 : Int32) (σ : am_H) : f_X9_hold (d + 1) a0 x1 σ =
    (am_gR σ a0 9 11).bind fun k1 =>
    (am_ldI σ k1 1 x1).bind fun v2 =>
    (am_stI σ k1 x1 (v2 + (nI 1))).bind fun s3 =>
    (am_gR s3 a0 9 11).bind fun k4 =>
    (am_ldI s3 k4 1 x1).bind fun v5 =>
    bif decide (¬ v5 = (nI 5)) then
      (am_gR s3 a0 9 10).bind fun k6 =>
      (am_gR s3 a0 9 11).bind fun k7 =>
      (am_ldI s3 k7 1 x1).bind fun v8 =>
      (am_stI s3 k6 x1 ((nI 1) <<< ((v8 - (nI 1)) &&& 31))).bind fun s9 =>
      some ((0, 0, none), s9)
    else
      bif am_is s3 a0 9 then
        (f_X9_ends d a0 x1 (-nI 5) s3).bind fun r10 =>
        some ((0, 0, none), r10.2)
      else none := (am_L_it (d + 1) 129 34 true 0 [(0, .ref a0), (1, .int x1)] [] σ).symm
set_option maxRecDepth 100000 in
set_option maxHeartbeats 4000000 in
theorem e_X9_blobOf (d : Nat) (a0 : Nat) (j1 : Int64) (σ : am_H) : f_X9_blobOf d a0 j1 σ =
    l_X9_blobOf_5 d a0 j1 (-nI 1) (nI 0) σ := (am_L_it d 130 25 true 0 [(0, .ref a0), (1, .long j1)] [] σ).symm
set_option maxRecDepth 100000 in
set_option maxHeartbeats 4000000 in
theorem e_X9_isBusy (d : Nat) (a0 : Nat) (x1 : Int32) (σ : am_H) : f_X9_isBusy (d + 1) a0 x1 σ =
    (am_gI σ a0 9 3).bind fun v1 =>
    bif decide (¬ v1 = nI 0) then
      (am_gI σ a0 9 3).bind fun v2 =>
      (am_pI σ a0 9 3 (v2 - (nI 1))).bind fun s3 =>
      bif am_is s3 a0 9 then
        (f_X9_error d a0 x1 (nI 1) s3).bind fun r4 =>
        bif am_zb (nI 1) then some (((nI 1), 0, none), r4.2) else none
      else none
    else
      bif am_zb (nI 0) then some (((nI 0), 0, none), σ) else none := (am_L_it (d + 1) 131 19 true 0 [(0, .ref a0), (1, .int x1)] [] σ).symm
set_option maxRecDepth 100000 in
set_option maxHeartbeats 4000000 in
theorem e_X9_beginWrite (d : Nat) (a0 : Nat) (x1 : Int32) (j2 : Int64) (σ : am_H) : f_X9_beginWrite (d + 1) a0 x1 j2 σ =
    bif am_is σ a0 9 then
      (f_X9_blobOf d a0 j2 σ).bind fun r1 =>
      bif decide (r1.1.1 = (-nI 1)) then
        (am_gR r1.2 a0 9 32).bind fun k2 =>
        (am_ldI r1.2 k2 3 x1).bind fun v3 =>
        bif decide (¬ v3 = nI 0) then
          l_X9_beginWrite_56 (d + 1) a0 x1 r1.2
        else
          (am_gR r1.2 a0 9 32).bind fun k4 =>
          (am_stZ r1.2 k4 x1 (nI 1)).bind fun s5 =>
          (am_gR s5 a0 9 37).bind fun k6 =>
          (am_stI s5 k6 x1 (nI 0)).bind fun s7 =>
          (am_gR s7 a0 9 34).bind fun k8 =>
          (am_stJ s7 k8 x1 j2).bind fun s9 =>
          l_X9_beginWrite_56 (d + 1) a0 x1 s9
      else
        (am_gR r1.2 a0 9 32).bind fun k10 =>
        (am_stZ r1.2 k10 x1 (nI 0)).bind fun s11 =>
        bif am_is s11 a0 9 then
          (f_X9_sendPlain d a0 (nI 1) x1 (nI 11) (nI 0) s11).bind fun r12 =>
          some ((0, 0, none), r12.2)
        else none
    else none := (am_L_it (d + 1) 132 49 true 0 [(0, .ref a0), (1, .int x1), (2, .long j2)] [] σ).symm
set_option maxRecDepth 100000 in
set_option maxHeartbeats 4000000 in
theorem e_X9_moreOfPartial (d : Nat) (a0 : Nat) (x1 : Int32) (x2 : Int32) (x3 : Int32) (σ : am_H) : f_X9_moreOfPartial d a0 x1 x2 x3 σ =
    (am_gR σ a0 9 32).bind fun k1 =>
    (am_ldI σ k1 3 x1).bind fun v2 =>
    bif decide (v2 = nI 0) then
      some ((0, 0, none), σ)
    else
      (am_gR σ a0 9 37).bind fun k3 =>
      (am_ldI σ k3 1 x1).bind fun v4 =>
      bif decide (¬ v4 = x2) then
        some ((0, 0, none), σ)
      else
        bif decide ((x2 + x3) ≤ (nI 60)) then
          l_X9_moreOfPartial_31 d a0 x1 x2 x3 (nI 0) σ
        else
          some ((0, 0, none), σ) := (am_L_it d 133 51 true 0 [(0, .ref a0), (1, .int x1), (2, .int x2), (3, .int x3)] [] σ).symm
set_option maxRecDepth 100000 in
set_option maxHeartbeats 4000000 in
theorem e_X9_endWrite (d : Nat) (a0 : Nat) (x1 : Int32) (x2 : Int32) (σ : am_H) : f_X9_endWrite (d + 1) a0 x1 x2 σ =
    (am_gR σ a0 9 32).bind fun k1 =>
    (am_ldI σ k1 3 x1).bind fun v2 =>
    bif decide (v2 = nI 0) then
      some ((0, 0, none), σ)
    else
      bif am_is σ a0 9 then
        (f_X9_isBusy d a0 x1 σ).bind fun r3 =>
        bif decide (r3.1.1 = nI 0) then
          (am_gR r3.2 a0 9 37).bind fun k4 =>
          (am_ldI r3.2 k4 1 x1).bind fun v5 =>
          bif decide (v5 = x2) then
            (am_gR r3.2 a0 9 32).bind fun k6 =>
            (am_stZ r3.2 k6 x1 (nI 0)).bind fun s7 =>
            (am_gR s7 a0 9 38).bind fun k8 =>
            (f_X9_digestOf d k8 ((nI 60) * x1) x2 s7).bind fun r9 =>
            (am_gR r9.2 a0 9 34).bind fun k10 =>
            (am_ldJ r9.2 k10 x1).bind fun w11 =>
            bif decide ((lg_cmp r9.1.2.1 w11) = nI 0) then
              bif am_is r9.2 a0 9 then
                (f_X9_blobOf d a0 r9.1.2.1 r9.2).bind fun r12 =>
                bif decide (¬ r12.1.1 = (-nI 1)) then
                  bif am_is r12.2 a0 9 then
                    (f_X9_sendPlain d a0 (nI 1) x1 (nI 11) (nI 0) r12.2).bind fun r13 =>
                    some ((0, 0, none), r13.2)
                  else none
                else
                  (am_gI r12.2 a0 9 24).bind fun v14 =>
                  bif decide (¬ v14 = (nI 10)) then
                    (am_gR r12.2 a0 9 26).bind fun k15 =>
                    (am_gI r12.2 a0 9 24).bind fun v16 =>
                    (am_stJ r12.2 k15 v16 r9.1.2.1).bind fun s17 =>
                    (am_gR s17 a0 9 27).bind fun k18 =>
                    (am_gI s17 a0 9 24).bind fun v19 =>
                    (am_stI s17 k18 v19 x2).bind fun s20 =>
                    l_X9_endWrite_121 (d + 1) a0 x1 x2 (nI 0) s20
                  else
                    bif am_is r12.2 a0 9 then
                      (f_X9_error d a0 x1 (nI 4) r12.2).bind fun r21 =>
                      some ((0, 0, none), r21.2)
                    else none
              else none
            else
              bif am_is r9.2 a0 9 then
                (f_X9_error d a0 x1 (nI 3) r9.2).bind fun r22 =>
                some ((0, 0, none), r22.2)
              else none
          else
            bif am_is r3.2 a0 9 then
              (f_X9_error d a0 x1 (nI 1) r3.2).bind fun r23 =>
              some ((0, 0, none), r23.2)
            else none
        else
          some ((0, 0, none), r3.2)
      else none := (am_L_it (d + 1) 134 111 true 0 [(0, .ref a0), (1, .int x1), (2, .int x2)] [] σ).symm
set_option maxRecDepth 100000 in
set_option maxHeartbeats 4000000 in
theorem e_X9_readBlob (d : Nat) (a0 : Nat) (x1 : Int32) (x2 : Int32) (j3 : Int64) (σ : am_H) : f_X9_readBlob (d + 1) a0 x1 x2 j3 σ =
    bif am_is σ a0 9 then
      (f_X9_isBusy d a0 x1 σ).bind fun r1 =>
      bif decide (r1.1.1 = nI 0) then
        bif am_is r1.2 a0 9 then
          (f_X9_blobOf d a0 j3 r1.2).bind fun r2 =>
          bif decide (¬ r2.1.1 = (-nI 1)) then
            (am_gR r2.2 a0 9 28).bind fun k3 =>
            (am_gR r2.2 a0 9 27).bind fun k4 =>
            (am_ldI r2.2 k4 1 r2.1.1).bind fun v5 =>
            bif am_is r2.2 a0 9 then
              (f_X9_pieces d a0 (nI 1) x1 k3 ((nI 60) * r2.1.1) v5 x2 r2.2).bind fun r6 =>
              some ((0, 0, none), r6.2)
            else none
          else
            bif am_is r2.2 a0 9 then
              (f_X9_error d a0 x1 (nI 2) r2.2).bind fun r7 =>
              some ((0, 0, none), r7.2)
            else none
        else none
      else
        some ((0, 0, none), r1.2)
    else none := (am_L_it (d + 1) 135 34 true 0 [(0, .ref a0), (1, .int x1), (2, .int x2), (3, .long j3)] [] σ).symm
set_option maxRecDepth 100000 in
set_option maxHeartbeats 4000000 in
theorem e_X9_resultOf (d : Nat) (a0 : Nat) (j1 : Int64) (σ : am_H) : f_X9_resultOf d a0 j1 σ =
    l_X9_resultOf_5 d a0 j1 (-nI 1) (nI 0) σ := (am_L_it d 136 25 true 0 [(0, .ref a0), (1, .long j1)] [] σ).symm
set_option maxRecDepth 100000 in
set_option maxHeartbeats 4000000 in
theorem e_X9_tellResult (d : Nat) (a0 : Nat) (x1 : Int32) (j2 : Int64) (σ : am_H) : f_X9_tellResult (d + 1) a0 x1 j2 σ =
    bif am_is σ a0 9 then
      (f_X9_isBusy d a0 x1 σ).bind fun r1 =>
      bif decide (r1.1.1 = nI 0) then
        bif am_is r1.2 a0 9 then
          (f_X9_resultOf d a0 j2 r1.2).bind fun r2 =>
          bif decide (r2.1.1 = (-nI 1)) then
            l_X9_tellResult_32 (d + 1) a0 x1 r2.1.1 (nI 0) (nI 0) r2.2
          else
            l_X9_tellResult_32 (d + 1) a0 x1 r2.1.1 (nI 1) (nI 0) r2.2
        else none
      else
        some ((0, 0, none), r1.2)
    else none := (am_L_it (d + 1) 137 87 true 0 [(0, .ref a0), (1, .int x1), (2, .long j2)] [] σ).symm
set_option maxRecDepth 100000 in
set_option maxHeartbeats 4000000 in
theorem e_X9_beginNote (d : Nat) (a0 : Nat) (x1 : Int32) (j2 : Int64) (σ : am_H) : f_X9_beginNote d a0 x1 j2 σ =
    (am_gR σ a0 9 33).bind fun k1 =>
    (am_stZ σ k1 x1 (nI 1)).bind fun s2 =>
    (am_gR s2 a0 9 39).bind fun k3 =>
    (am_stI s2 k3 x1 (nI 0)).bind fun s4 =>
    (am_gR s4 a0 9 35).bind fun k5 =>
    (am_stJ s4 k5 x1 j2).bind fun s6 =>
    some ((0, 0, none), s6) := (am_L_it d 138 18 true 0 [(0, .ref a0), (1, .int x1), (2, .long j2)] [] σ).symm
set_option maxRecDepth 100000 in
set_option maxHeartbeats 4000000 in
theorem e_X9_moreOfNote (d : Nat) (a0 : Nat) (x1 : Int32) (x2 : Int32) (j3 : Int64) (σ : am_H) : f_X9_moreOfNote d a0 x1 x2 j3 σ =
    (am_gR σ a0 9 33).bind fun k1 =>
    (am_ldI σ k1 3 x1).bind fun v2 =>
    bif decide (v2 = nI 0) then
      some ((0, 0, none), σ)
    else
      (am_gR σ a0 9 39).bind fun k3 =>
      (am_ldI σ k3 1 x1).bind fun v4 =>
      bif decide (¬ v4 = x2) then
        some ((0, 0, none), σ)
      else
        bif decide (x2 < (nI 3)) then
          (am_gR σ a0 9 36).bind fun k5 =>
          (am_stJ σ k5 (((nI 3) * x1) + x2) j3).bind fun s6 =>
          (am_gR s6 a0 9 39).bind fun k7 =>
          (am_ldI s6 k7 1 x1).bind fun v8 =>
          (am_stI s6 k7 x1 (v8 + (nI 1))).bind fun s9 =>
          some ((0, 0, none), s9)
        else
          some ((0, 0, none), σ) := (am_L_it d 139 35 true 0 [(0, .ref a0), (1, .int x1), (2, .int x2), (3, .long j3)] [] σ).symm
set_option maxRecDepth 100000 in
set_option maxHeartbeats 4000000 in
theorem e_X9_endNote (d : Nat) (a0 : Nat) (x1 : Int32) (x2 : Int32) (σ : am_H) : f_X9_endNote (d + 1) a0 x1 x2 σ =
    (am_gR σ a0 9 33).bind fun k1 =>
    (am_ldI σ k1 3 x1).bind fun v2 =>
    bif decide (v2 = nI 0) then
      some ((0, 0, none), σ)
    else
      bif am_is σ a0 9 then
        (f_X9_isBusy d a0 x1 σ).bind fun r3 =>
        bif decide (r3.1.1 = nI 0) then
          (am_gR r3.2 a0 9 39).bind fun k4 =>
          (am_ldI r3.2 k4 1 x1).bind fun v5 =>
          bif decide (v5 = x2) then
            (am_gR r3.2 a0 9 33).bind fun k6 =>
            (am_stZ r3.2 k6 x1 (nI 0)).bind fun s7 =>
            (am_gR s7 a0 9 35).bind fun k8 =>
            (am_ldJ s7 k8 x1).bind fun w9 =>
            bif am_is s7 a0 9 then
              (f_X9_resultOf d a0 w9 s7).bind fun r10 =>
              bif decide (¬ r10.1.1 = (-nI 1)) then
                l_X9_endNote_74 (d + 1) a0 x1 r10.1.1 r10.2
              else
                (am_gI r10.2 a0 9 25).bind fun v11 =>
                bif decide (¬ v11 = (nI 10)) then
                  l_X9_endNote_74 (d + 1) a0 x1 r10.1.1 r10.2
                else
                  bif am_is r10.2 a0 9 then
                    (f_X9_error d a0 x1 (nI 4) r10.2).bind fun r12 =>
                    some ((0, 0, none), r12.2)
                  else none
            else none
          else
            bif am_is r3.2 a0 9 then
              (f_X9_error d a0 x1 (nI 1) r3.2).bind fun r13 =>
              some ((0, 0, none), r13.2)
            else none
        else
          some ((0, 0, none), r3.2)
      else none := (am_L_it (d + 1) 140 108 true 0 [(0, .ref a0), (1, .int x1), (2, .int x2)] [] σ).symm
set_option maxRecDepth 100000 in
set_option maxHeartbeats 4000000 in
theorem e_X9_longOf (d : Nat) (a0 : Nat) (x1 : Int32) (σ : am_H) : f_X9_longOf d a0 x1 σ =
    l_X9_longOf_5 d a0 x1 (lN 0) (nI 0) σ := (am_L_it d 141 29 true 0 [(0, .ref a0), (1, .int x1)] [] σ).symm
set_option maxRecDepth 100000 in
set_option maxHeartbeats 4000000 in
theorem e_l_X9_digestOf_6 (d : Nat) (a0 : Nat) (x1 : Int32) (x2 : Int32) (j3 : Int64) (x5 : Int32) (σ : am_H) : l_X9_digestOf_6 d a0 x1 x2 j3 x5 σ =
    bif decide ((x1 + x2) ≤ x5) then
      some ((0, j3, none), σ)
    else
      (am_ldI σ a0 1 x5).bind fun v1 =>
      l_X9_digestOf_6 d a0 x1 x2 ((j3 ^^^ (Int32.toInt64 v1)) * (lN 1099511628211)) (x5 + nI 1) σ := (am_L_it d 114 25 true 6 [(0, .ref a0), (1, .int x1), (2, .int x2), (3, .long j3), (5, .int x5)] [] σ).symm
set_option maxRecDepth 100000 in
set_option maxHeartbeats 4000000 in
theorem e_l_X9_putLong_3 (d : Nat) (a0 : Nat) (j1 : Int64) (x3 : Int32) (σ : am_H) : l_X9_putLong_3 (d + 1) a0 j1 x3 σ =
    bif decide (x3 < nI 0) then
      some ((0, 0, none), σ)
    else
      bif am_is σ a0 9 then
        (f_X9_put d a0 (Int64.toInt32 ((j1 >>> (Int32.toInt64 x3 &&& 63)) &&& (lN 255))) σ).bind fun r1 =>
        l_X9_putLong_3 (d + 1) a0 j1 (x3 - nI 8) r1.2
      else none := (am_L_it (d + 1) 118 17 true 3 [(0, .ref a0), (1, .long j1), (3, .int x3)] [] σ).symm
set_option maxRecDepth 100000 in
set_option maxHeartbeats 4000000 in
theorem e_l_X9_send_14 (d : Nat) (a0 : Nat) (x1 : Int32) (x2 : Int32) (x3 : Int32) (σ : am_H) : l_X9_send_14 (d + 1) a0 x1 x2 x3 σ =
    (am_gI σ a0 9 49).bind fun v1 =>
    bif decide (v1 ≤ x3) then
      bif am_is σ a0 9 then
        (f_X9_put d a0 (x2 &&& (nI 255)) σ).bind fun r2 =>
        (am_gR r2.2 a0 9 42).bind fun k3 =>
        (am_ldI r2.2 k3 1 x1).bind fun v4 =>
        (am_gI r2.2 a0 9 49).bind fun v5 =>
        bif decide ((v4 + v5) ≤ (nI 2000)) then
          (am_gR r2.2 a0 9 41).bind fun k6 =>
          (am_ldI r2.2 k6 1 x1).bind fun v7 =>
          (am_gR r2.2 a0 9 42).bind fun k8 =>
          (am_ldI r2.2 k8 1 x1).bind fun v9 =>
          (am_gI r2.2 a0 9 49).bind fun v10 =>
          bif decide (((v7 + v9) + v10) ≤ (nI 4200)) then
            l_X9_send_156 (d + 1) a0 x1 ((nI 4200) * x1) r2.2
          else
            l_X9_send_107 (d + 1) a0 x1 ((nI 4200) * x1) (nI 0) r2.2
        else
          (am_gI r2.2 a0 9 5).bind fun v11 =>
          (am_pI r2.2 a0 9 5 (v11 + (nI 1))).bind fun s12 =>
          some ((0, 0, none), s12)
      else none
    else
      (am_gR σ a0 9 48).bind fun k13 =>
      (am_ldI σ k13 1 x3).bind fun v14 =>
      l_X9_send_14 (d + 1) a0 x1 (x2 + v14) (x3 + nI 1) σ := (am_L_it (d + 1) 119 157 true 14 [(0, .ref a0), (1, .int x1), (2, .int x2), (3, .int x3)] [] σ).symm
set_option maxRecDepth 100000 in
set_option maxHeartbeats 4000000 in
theorem e_l_X9_pieces_4 (d : Nat) (a0 : Nat) (x1 : Int32) (x2 : Int32) (a3 : Nat) (x4 : Int32) (x5 : Int32) (x7 : Int32) (σ : am_H) : l_X9_pieces_4 (d + 1) a0 x1 x2 a3 x4 x5 x7 σ =
    bif decide (x5 ≤ x7) then
      bif am_is σ a0 9 then
        (f_X9_sendPlain d a0 x1 x2 (nI 8) x5 σ).bind fun r1 =>
        some ((0, 0, none), r1.2)
      else none
    else
      bif am_is σ a0 9 then
        (f_X9_frameOf d a0 x2 (nI 7) x7 σ).bind fun r2 =>
        l_X9_pieces_24 (d + 1) a0 x1 x2 a3 x4 x5 x7 x7 r2.2
      else none := (am_L_it (d + 1) 124 48 true 4 [(0, .ref a0), (1, .int x1), (2, .int x2), (3, .ref a3), (4, .int x4), (5, .int x5), (7, .int x7)] [] σ).symm
set_option maxRecDepth 100000 in
set_option maxHeartbeats 4000000 in
theorem e_l_X9_answers_4 (d : Nat) (a0 : Nat) (x1 : Int32) (x2 : Int32) (x3 : Int32) (σ : am_H) : l_X9_answers_4 d a0 x1 x2 x3 σ =
    (am_gR σ a0 9 17).bind fun k1 =>
    (am_ldI σ k1 1 x1).bind fun v2 =>
    bif decide (v2 ≤ x3) then
      some ((x2, 0, none), σ)
    else
      (am_gR σ a0 9 19).bind fun k3 =>
      (am_ldI σ k3 3 (((nI 4) * x1) + x3)).bind fun v4 =>
      bif decide (v4 = nI 0) then
        l_X9_answers_4 d a0 x1 (x2 + (nI 0)) (x3 + nI 1) σ
      else
        l_X9_answers_4 d a0 x1 (x2 + (nI 1)) (x3 + nI 1) σ := (am_L_it d 126 31 true 4 [(0, .ref a0), (1, .int x1), (2, .int x2), (3, .int x3)] [] σ).symm
set_option maxRecDepth 100000 in
set_option maxHeartbeats 4000000 in
theorem e_l_X9_open_38 (d : Nat) (a0 : Nat) (x1 : Int32) (x2 : Int32) (σ : am_H) : l_X9_open_38 (d + 1) a0 x1 x2 σ =
    (am_gR σ a0 9 17).bind fun k1 =>
    (am_ldI σ k1 1 x1).bind fun v2 =>
    bif decide (v2 ≤ x2) then
      (am_gR σ a0 9 17).bind fun k3 =>
      (am_ldI σ k3 1 x1).bind fun v4 =>
      bif decide (¬ v4 = nI 0) then
        some ((0, 0, none), σ)
      else
        bif am_is σ a0 9 then
          (f_X9_ends d a0 x1 (nI 1) σ).bind fun r5 =>
          some ((0, 0, none), r5.2)
        else none
    else
      (am_gR σ a0 9 19).bind fun k6 =>
      (am_ldI σ k6 3 (((nI 4) * x1) + x2)).bind fun v7 =>
      bif decide (¬ v7 = nI 0) then
        l_X9_open_38 (d + 1) a0 x1 (x2 + nI 1) σ
      else
        (am_gR σ a0 9 18).bind fun k8 =>
        (am_ldJ σ k8 (((nI 4) * x1) + x2)).bind fun w9 =>
        bif am_is σ a0 9 then
          (f_X9_sendLong d a0 (nI 0) x1 (nI 0) x2 w9 σ).bind fun r10 =>
          l_X9_open_38 (d + 1) a0 x1 (x2 + nI 1) r10.2
        else none := (am_L_it (d + 1) 128 133 true 38 [(0, .ref a0), (1, .int x1), (2, .int x2)] [] σ).symm
set_option maxRecDepth 100000 in
set_option maxHeartbeats 4000000 in
theorem e_l_X9_open_180 (d : Nat) (a0 : Nat) (x1 : Int32) (x2 : Int32) (σ : am_H) : l_X9_open_180 (d + 1) a0 x1 x2 σ =
    (am_gR σ a0 9 17).bind fun k1 =>
    (am_ldI σ k1 1 x1).bind fun v2 =>
    bif decide (v2 ≤ x2) then
      (am_gR σ a0 9 17).bind fun k3 =>
      (am_ldI σ k3 1 x1).bind fun v4 =>
      bif am_is σ a0 9 then
        (f_X9_sendPlain d a0 (nI 0) x1 (nI 6) v4 σ).bind fun r5 =>
        some ((0, 0, none), r5.2)
      else none
    else
      (am_gR σ a0 9 18).bind fun k6 =>
      (am_ldJ σ k6 (((nI 4) * x1) + x2)).bind fun w7 =>
      bif am_is σ a0 9 then
        (f_X9_sendLong d a0 (nI 0) x1 (nI 5) x2 w7 σ).bind fun r8 =>
        l_X9_open_180 (d + 1) a0 x1 (x2 + nI 1) r8.2
      else none := (am_L_it (d + 1) 128 133 true 180 [(0, .ref a0), (1, .int x1), (2, .int x2)] [] σ).symm
set_option maxRecDepth 100000 in
set_option maxHeartbeats 4000000 in
theorem e_l_X9_blobOf_5 (d : Nat) (a0 : Nat) (j1 : Int64) (x3 : Int32) (x4 : Int32) (σ : am_H) : l_X9_blobOf_5 d a0 j1 x3 x4 σ =
    (am_gI σ a0 9 24).bind fun v1 =>
    bif decide (v1 ≤ x4) then
      some ((x3, 0, none), σ)
    else
      (am_gR σ a0 9 26).bind fun k2 =>
      (am_ldJ σ k2 x4).bind fun w3 =>
      bif decide (¬ (lg_cmp w3 j1) = nI 0) then
        l_X9_blobOf_5 d a0 j1 x3 (x4 + nI 1) σ
      else
        l_X9_blobOf_5 d a0 j1 x4 (x4 + nI 1) σ := (am_L_it d 130 25 true 5 [(0, .ref a0), (1, .long j1), (3, .int x3), (4, .int x4)] [] σ).symm
set_option maxRecDepth 100000 in
set_option maxHeartbeats 4000000 in
theorem e_l_X9_beginWrite_56 (d : Nat) (a0 : Nat) (x1 : Int32) (σ : am_H) : l_X9_beginWrite_56 (d + 1) a0 x1 σ =
    (am_gR σ a0 9 37).bind fun k1 =>
    (am_ldI σ k1 1 x1).bind fun v2 =>
    bif am_is σ a0 9 then
      (f_X9_sendPlain d a0 (nI 1) x1 (nI 12) v2 σ).bind fun r3 =>
      some ((0, 0, none), r3.2)
    else none := (am_L_it (d + 1) 132 49 true 56 [(0, .ref a0), (1, .int x1)] [] σ).symm
set_option maxRecDepth 100000 in
set_option maxHeartbeats 4000000 in
theorem e_l_X9_moreOfPartial_31 (d : Nat) (a0 : Nat) (x1 : Int32) (x2 : Int32) (x3 : Int32) (x4 : Int32) (σ : am_H) : l_X9_moreOfPartial_31 d a0 x1 x2 x3 x4 σ =
    bif decide (x3 ≤ x4) then
      (am_gR σ a0 9 37).bind fun k1 =>
      (am_ldI σ k1 1 x1).bind fun v2 =>
      (am_stI σ k1 x1 (v2 + x3)).bind fun s3 =>
      some ((0, 0, none), s3)
    else
      (am_gR σ a0 9 38).bind fun k4 =>
      (am_gR σ a0 9 46).bind fun k5 =>
      (am_ldI σ k5 1 ((nI 68) + x4)).bind fun v6 =>
      (am_stI σ k4 ((((nI 60) * x1) + x2) + x4) v6).bind fun s7 =>
      l_X9_moreOfPartial_31 d a0 x1 x2 x3 (x4 + nI 1) s7 := (am_L_it d 133 51 true 31 [(0, .ref a0), (1, .int x1), (2, .int x2), (3, .int x3), (4, .int x4)] [] σ).symm
set_option maxRecDepth 100000 in
set_option maxHeartbeats 4000000 in
theorem e_l_X9_endWrite_121 (d : Nat) (a0 : Nat) (x1 : Int32) (x2 : Int32) (x5 : Int32) (σ : am_H) : l_X9_endWrite_121 (d + 1) a0 x1 x2 x5 σ =
    bif decide (x2 ≤ x5) then
      (am_gI σ a0 9 24).bind fun v1 =>
      (am_pI σ a0 9 24 (v1 + (nI 1))).bind fun s2 =>
      bif am_is s2 a0 9 then
        (f_X9_sendPlain d a0 (nI 1) x1 (nI 11) (nI 0) s2).bind fun r3 =>
        some ((0, 0, none), r3.2)
      else none
    else
      (am_gR σ a0 9 28).bind fun k4 =>
      (am_gI σ a0 9 24).bind fun v5 =>
      (am_gR σ a0 9 38).bind fun k6 =>
      (am_ldI σ k6 1 (((nI 60) * x1) + x5)).bind fun v7 =>
      (am_stI σ k4 (((nI 60) * v5) + x5) v7).bind fun s8 =>
      l_X9_endWrite_121 (d + 1) a0 x1 x2 (x5 + nI 1) s8 := (am_L_it (d + 1) 134 111 true 121 [(0, .ref a0), (1, .int x1), (2, .int x2), (5, .int x5)] [] σ).symm
set_option maxRecDepth 100000 in
set_option maxHeartbeats 4000000 in
theorem e_l_X9_resultOf_5 (d : Nat) (a0 : Nat) (j1 : Int64) (x3 : Int32) (x4 : Int32) (σ : am_H) : l_X9_resultOf_5 d a0 j1 x3 x4 σ =
    (am_gI σ a0 9 25).bind fun v1 =>
    bif decide (v1 ≤ x4) then
      some ((x3, 0, none), σ)
    else
      (am_gR σ a0 9 29).bind fun k2 =>
      (am_ldJ σ k2 x4).bind fun w3 =>
      bif decide (¬ (lg_cmp w3 j1) = nI 0) then
        l_X9_resultOf_5 d a0 j1 x3 (x4 + nI 1) σ
      else
        l_X9_resultOf_5 d a0 j1 x4 (x4 + nI 1) σ := (am_L_it d 136 25 true 5 [(0, .ref a0), (1, .long j1), (3, .int x3), (4, .int x4)] [] σ).symm
set_option maxRecDepth 100000 in
set_option maxHeartbeats 4000000 in
theorem e_l_X9_tellResult_32 (d : Nat) (a0 : Nat) (x1 : Int32) (x4 : Int32) (x5 : Int32) (x6 : Int32) (σ : am_H) : l_X9_tellResult_32 (d + 1) a0 x1 x4 x5 x6 σ =
    bif decide (x5 = nI 0) then
      l_X9_tellResult_82 (d + 1) a0 x1 x4 x5 σ
    else
      (am_gR σ a0 9 31).bind fun k1 =>
      (am_ldI σ k1 1 x4).bind fun v2 =>
      bif decide (v2 ≤ x6) then
        l_X9_tellResult_82 (d + 1) a0 x1 x4 x5 σ
      else
        (am_gR σ a0 9 30).bind fun k3 =>
        (am_ldJ σ k3 (((nI 3) * x4) + x6)).bind fun w4 =>
        bif am_is σ a0 9 then
          (f_X9_blobOf d a0 w4 σ).bind fun r5 =>
          bif decide (r5.1.1 = (-nI 1)) then
            l_X9_tellResult_32 (d + 1) a0 x1 x4 (nI 0) (x6 + nI 1) r5.2
          else
            l_X9_tellResult_32 (d + 1) a0 x1 x4 (nI 1) (x6 + nI 1) r5.2
        else none := (am_L_it (d + 1) 137 87 true 32 [(0, .ref a0), (1, .int x1), (4, .int x4), (5, .int x5), (6, .int x6)] [] σ).symm
set_option maxRecDepth 100000 in
set_option maxHeartbeats 4000000 in
theorem e_l_X9_endNote_74 (d : Nat) (a0 : Nat) (x1 : Int32) (x3 : Int32) (σ : am_H) : l_X9_endNote_74 (d + 1) a0 x1 x3 σ =
    bif decide (¬ x3 = (-nI 1)) then
      l_X9_endNote_94 (d + 1) a0 x1 x3 σ
    else
      (am_gI σ a0 9 25).bind fun v1 =>
      (am_gI σ a0 9 25).bind fun v2 =>
      (am_pI σ a0 9 25 (v2 + (nI 1))).bind fun s3 =>
      l_X9_endNote_94 (d + 1) a0 x1 v1 s3 := (am_L_it (d + 1) 140 108 true 74 [(0, .ref a0), (1, .int x1), (3, .int x3)] [] σ).symm
set_option maxRecDepth 100000 in
set_option maxHeartbeats 4000000 in
theorem e_l_X9_longOf_5 (d : Nat) (a0 : Nat) (x1 : Int32) (j2 : Int64) (x4 : Int32) (σ : am_H) : l_X9_longOf_5 d a0 x1 j2 x4 σ =
    bif decide ((nI 8) ≤ x4) then
      some ((0, j2, none), σ)
    else
      (am_gR σ a0 9 46).bind fun k1 =>
      (am_ldI σ k1 1 ((((nI 64) * x1) + (nI 4)) + x4)).bind fun v2 =>
      l_X9_longOf_5 d a0 x1 ((j2 <<< (Int32.toInt64 (nI 8) &&& 63)) ||| (Int32.toInt64 v2)) (x4 + nI 1) σ := (am_L_it d 141 29 true 5 [(0, .ref a0), (1, .int x1), (2, .long j2), (4, .int x4)] [] σ).symm
set_option maxRecDepth 100000 in
set_option maxHeartbeats 4000000 in
theorem e_l_X9_send_156 (d : Nat) (a0 : Nat) (x1 : Int32) (x3 : Int32) (σ : am_H) : l_X9_send_156 (d + 1) a0 x1 x3 σ =
    (am_gR σ a0 9 41).bind fun k1 =>
    (am_ldI σ k1 1 x1).bind fun v2 =>
    (am_gR σ a0 9 42).bind fun k3 =>
    (am_ldI σ k3 1 x1).bind fun v4 =>
    l_X9_send_176 (d + 1) a0 x1 ((x3 + v2) + v4) (nI 0) σ := (am_L_it (d + 1) 119 157 true 156 [(0, .ref a0), (1, .int x1), (3, .int x3)] [] σ).symm
set_option maxRecDepth 100000 in
set_option maxHeartbeats 4000000 in
theorem e_l_X9_send_107 (d : Nat) (a0 : Nat) (x1 : Int32) (x3 : Int32) (x4 : Int32) (σ : am_H) : l_X9_send_107 (d + 1) a0 x1 x3 x4 σ =
    (am_gR σ a0 9 42).bind fun k1 =>
    (am_ldI σ k1 1 x1).bind fun v2 =>
    bif decide (v2 ≤ x4) then
      (am_gR σ a0 9 41).bind fun k3 =>
      (am_stI σ k3 x1 (nI 0)).bind fun s4 =>
      l_X9_send_156 (d + 1) a0 x1 x3 s4
    else
      (am_gR σ a0 9 40).bind fun k5 =>
      (am_gR σ a0 9 40).bind fun k6 =>
      (am_gR σ a0 9 41).bind fun k7 =>
      (am_ldI σ k7 1 x1).bind fun v8 =>
      (am_ldI σ k6 1 ((x3 + v8) + x4)).bind fun v9 =>
      (am_stI σ k5 (x3 + x4) v9).bind fun s10 =>
      l_X9_send_107 (d + 1) a0 x1 x3 (x4 + nI 1) s10 := (am_L_it (d + 1) 119 157 true 107 [(0, .ref a0), (1, .int x1), (3, .int x3), (4, .int x4)] [] σ).symm
set_option maxRecDepth 100000 in
set_option maxHeartbeats 4000000 in
theorem e_l_X9_pieces_24 (d : Nat) (a0 : Nat) (x1 : Int32) (x2 : Int32) (a3 : Nat) (x4 : Int32) (x5 : Int32) (x7 : Int32) (x8 : Int32) (σ : am_H) : l_X9_pieces_24 (d + 1) a0 x1 x2 a3 x4 x5 x7 x8 σ =
    bif decide (x5 ≤ x8) then
      l_X9_pieces_60 (d + 1) a0 x1 x2 a3 x4 x5 x7 σ
    else
      (am_gI σ a0 9 1).bind fun v1 =>
      bif decide ((x7 + v1) ≤ x8) then
        l_X9_pieces_60 (d + 1) a0 x1 x2 a3 x4 x5 x7 σ
      else
        (am_ldI σ a3 1 (x4 + x8)).bind fun v2 =>
        bif am_is σ a0 9 then
          (f_X9_put d a0 v2 σ).bind fun r3 =>
          l_X9_pieces_24 (d + 1) a0 x1 x2 a3 x4 x5 x7 (x8 + nI 1) r3.2
        else none := (am_L_it (d + 1) 124 48 true 24 [(0, .ref a0), (1, .int x1), (2, .int x2), (3, .ref a3), (4, .int x4), (5, .int x5), (7, .int x7), (8, .int x8)] [] σ).symm
set_option maxRecDepth 100000 in
set_option maxHeartbeats 4000000 in
theorem e_l_X9_tellResult_82 (d : Nat) (a0 : Nat) (x1 : Int32) (x4 : Int32) (x5 : Int32) (σ : am_H) : l_X9_tellResult_82 (d + 1) a0 x1 x4 x5 σ =
    bif decide (¬ x5 = nI 0) then
      l_X9_tellResult_97 (d + 1) a0 x1 x4 (nI 0) σ
    else
      bif am_is σ a0 9 then
        (f_X9_error d a0 x1 (nI 2) σ).bind fun r1 =>
        some ((0, 0, none), r1.2)
      else none := (am_L_it (d + 1) 137 87 true 82 [(0, .ref a0), (1, .int x1), (4, .int x4), (5, .int x5)] [] σ).symm
set_option maxRecDepth 100000 in
set_option maxHeartbeats 4000000 in
theorem e_l_X9_endNote_94 (d : Nat) (a0 : Nat) (x1 : Int32) (x3 : Int32) (σ : am_H) : l_X9_endNote_94 (d + 1) a0 x1 x3 σ =
    (am_gR σ a0 9 29).bind fun k1 =>
    (am_gR σ a0 9 35).bind fun k2 =>
    (am_ldJ σ k2 x1).bind fun w3 =>
    (am_stJ σ k1 x3 w3).bind fun s4 =>
    (am_gR s4 a0 9 31).bind fun k5 =>
    (am_gR s4 a0 9 39).bind fun k6 =>
    (am_ldI s4 k6 1 x1).bind fun v7 =>
    (am_stI s4 k5 x3 v7).bind fun s8 =>
    l_X9_endNote_121 (d + 1) a0 x1 x3 (nI 0) s8 := (am_L_it (d + 1) 140 108 true 94 [(0, .ref a0), (1, .int x1), (3, .int x3)] [] σ).symm
set_option maxRecDepth 100000 in
set_option maxHeartbeats 4000000 in
theorem e_l_X9_send_176 (d : Nat) (a0 : Nat) (x1 : Int32) (x4 : Int32) (x5 : Int32) (σ : am_H) : l_X9_send_176 (d + 1) a0 x1 x4 x5 σ =
    (am_gI σ a0 9 49).bind fun v1 =>
    bif decide (v1 ≤ x5) then
      (am_gR σ a0 9 42).bind fun k2 =>
      (am_ldI σ k2 1 x1).bind fun v3 =>
      (am_gI σ a0 9 49).bind fun v4 =>
      (am_stI σ k2 x1 (v3 + v4)).bind fun s5 =>
      (am_gR s5 a0 9 43).bind fun k6 =>
      (am_gR s5 a0 9 44).bind fun k7 =>
      (am_ldI s5 k7 1 x1).bind fun v8 =>
      (am_gI s5 a0 9 49).bind fun v9 =>
      (am_stI s5 k6 (((nI 900) * x1) + v8) v9).bind fun s10 =>
      (am_gR s10 a0 9 44).bind fun k11 =>
      (am_ldI s10 k11 1 x1).bind fun v12 =>
      (am_stI s10 k11 x1 (v12 + (nI 1))).bind fun s13 =>
      some ((0, 0, none), s13)
    else
      (am_gR σ a0 9 40).bind fun k14 =>
      (am_gR σ a0 9 48).bind fun k15 =>
      (am_ldI σ k15 1 x5).bind fun v16 =>
      (am_stI σ k14 (x4 + x5) v16).bind fun s17 =>
      l_X9_send_176 (d + 1) a0 x1 x4 (x5 + nI 1) s17 := (am_L_it (d + 1) 119 157 true 176 [(0, .ref a0), (1, .int x1), (4, .int x4), (5, .int x5)] [] σ).symm
set_option maxRecDepth 100000 in
set_option maxHeartbeats 4000000 in
theorem e_l_X9_pieces_60 (d : Nat) (a0 : Nat) (x1 : Int32) (x2 : Int32) (a3 : Nat) (x4 : Int32) (x5 : Int32) (x7 : Int32) (σ : am_H) : l_X9_pieces_60 (d + 1) a0 x1 x2 a3 x4 x5 x7 σ =
    bif am_is σ a0 9 then
      (f_X9_send d a0 x1 σ).bind fun r1 =>
      (am_gI r1.2 a0 9 1).bind fun v2 =>
      l_X9_pieces_4 (d + 1) a0 x1 x2 a3 x4 x5 (x7 + v2) r1.2
    else none := (am_L_it (d + 1) 124 48 true 60 [(0, .ref a0), (1, .int x1), (2, .int x2), (3, .ref a3), (4, .int x4), (5, .int x5), (7, .int x7)] [] σ).symm
set_option maxRecDepth 100000 in
set_option maxHeartbeats 4000000 in
theorem e_l_X9_tellResult_97 (d : Nat) (a0 : Nat) (x1 : Int32) (x4 : Int32) (x6 : Int32) (σ : am_H) : l_X9_tellResult_97 (d + 1) a0 x1 x4 x6 σ =
    (am_gR σ a0 9 31).bind fun k1 =>
    (am_ldI σ k1 1 x4).bind fun v2 =>
    bif decide (v2 ≤ x6) then
      (am_gR σ a0 9 31).bind fun k3 =>
      (am_ldI σ k3 1 x4).bind fun v4 =>
      bif am_is σ a0 9 then
        (f_X9_sendPlain d a0 (nI 1) x1 (nI 6) v4 σ).bind fun r5 =>
        some ((0, 0, none), r5.2)
      else none
    else
      (am_gR σ a0 9 30).bind fun k6 =>
      (am_ldJ σ k6 (((nI 3) * x4) + x6)).bind fun w7 =>
      bif am_is σ a0 9 then
        (f_X9_sendLong d a0 (nI 1) x1 (nI 5) x6 w7 σ).bind fun r8 =>
        l_X9_tellResult_97 (d + 1) a0 x1 x4 (x6 + nI 1) r8.2
      else none := (am_L_it (d + 1) 137 87 true 97 [(0, .ref a0), (1, .int x1), (4, .int x4), (6, .int x6)] [] σ).symm
set_option maxRecDepth 100000 in
set_option maxHeartbeats 4000000 in
theorem e_l_X9_endNote_121 (d : Nat) (a0 : Nat) (x1 : Int32) (x3 : Int32) (x4 : Int32) (σ : am_H) : l_X9_endNote_121 (d + 1) a0 x1 x3 x4 σ =
    (am_gR σ a0 9 39).bind fun k1 =>
    (am_ldI σ k1 1 x1).bind fun v2 =>
    bif decide (v2 ≤ x4) then
      bif am_is σ a0 9 then
        (f_X9_sendPlain d a0 (nI 1) x1 (nI 11) (nI 0) σ).bind fun r3 =>
        some ((0, 0, none), r3.2)
      else none
    else
      (am_gR σ a0 9 30).bind fun k4 =>
      (am_gR σ a0 9 36).bind fun k5 =>
      (am_ldJ σ k5 (((nI 3) * x1) + x4)).bind fun w6 =>
      (am_stJ σ k4 (((nI 3) * x3) + x4) w6).bind fun s7 =>
      l_X9_endNote_121 (d + 1) a0 x1 x3 (x4 + nI 1) s7 := (am_L_it (d + 1) 140 108 true 121 [(0, .ref a0), (1, .int x1), (3, .int x3), (4, .int x4)] [] σ).symm
