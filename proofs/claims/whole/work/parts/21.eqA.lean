/-! what each stretch does (by program) -/
set_option maxRecDepth 100000 in
set_option maxHeartbeats 4000000 in
theorem e_X0_init (d : Nat) (a0 : Nat) (x1 : Int32) (σ : am_H) : f_X0_init (d + 1) a0 x1 σ =
    (am_new σ 5 2).bind fun s1 =>
    (f_X5_init d (am_n σ) s1).bind fun r2 =>
    (am_pR r2.2 a0 0 9 (am_n σ)).bind fun s3 =>
    (am_nwa s3 2 (nI 4)).bind fun s4 =>
    (am_pR s4 a0 0 10 (am_n s3)).bind fun s5 =>
    (am_nwa s5 1 (nI 4)).bind fun s6 =>
    (am_pR s6 a0 0 12 (am_n s5)).bind fun s7 =>
    (am_pI s7 a0 0 0 x1).bind fun s8 =>
    some ((0, 0, none), s8) := (am_L_it (d + 1) 0 21 true 0 [(0, .ref a0), (1, .int x1)] [] σ).symm
set_option maxRecDepth 100000 in
set_option maxHeartbeats 4000000 in
theorem e_X0_goesOn (d : Nat) (a0 : Nat) (σ : am_H) : f_X0_goesOn d a0 σ =
    (am_gI σ a0 0 3).bind fun v1 =>
    bif decide (v1 = nI 0) then
      bif am_zb (nI 0) then some (((nI 0), 0, none), σ) else none
    else
      (am_gI σ a0 0 4).bind fun v2 =>
      bif decide (¬ v2 = nI 0) then
        bif am_zb (nI 0) then some (((nI 0), 0, none), σ) else none
      else
        bif am_zb (nI 1) then some (((nI 1), 0, none), σ) else none := (am_L_it d 1 12 true 0 [(0, .ref a0)] [] σ).symm
set_option maxRecDepth 100000 in
set_option maxHeartbeats 4000000 in
theorem e_X0_finish (d : Nat) (a0 : Nat) (x1 : Int32) (σ : am_H) : f_X0_finish d a0 x1 σ =
    (am_pI σ a0 0 4 x1).bind fun s1 =>
    (am_pZ s1 a0 0 6 (nI 0)).bind fun s2 =>
    some ((0, 0, none), s2) := (am_L_it d 2 9 true 0 [(0, .ref a0), (1, .int x1)] [] σ).symm
set_option maxRecDepth 100000 in
set_option maxHeartbeats 4000000 in
theorem e_X0_mostNamed (d : Nat) (a0 : Nat) (σ : am_H) : f_X0_mostNamed d a0 σ =
    (am_gI σ a0 0 1).bind fun v1 =>
    bif decide (v1 = nI 0) then
      some (((nI 4), 0, none), σ)
    else
    bif decide (v1 = nI 1) then
      some (((nI 0), 0, none), σ)
    else
    bif decide (v1 = nI 2) then
      some (((nI 1), 0, none), σ)
    else
    bif decide (v1 = nI 3) then
      some (((nI 0), 0, none), σ)
    else
    bif decide (v1 = nI 4) then
      some (((nI 3), 0, none), σ)
    else
      some (((nI 0), 0, none), σ) := (am_L_it d 3 13 true 0 [(0, .ref a0)] [] σ).symm
set_option maxRecDepth 100000 in
set_option maxHeartbeats 4000000 in
theorem e_X0_addDigest (d : Nat) (a0 : Nat) (j1 : Int64) (x2 : Int32) (σ : am_H) : f_X0_addDigest d a0 j1 x2 σ =
    (am_gI σ a0 0 11).bind fun v1 =>
    bif decide (x2 ≤ v1) then
      some (((-nI 1), 0, none), σ)
    else
      (am_gI σ a0 0 11).bind fun v2 =>
      bif decide (v2 < (nI 4)) then
        (am_gR σ a0 0 10).bind fun k3 =>
        (am_gI σ a0 0 11).bind fun v4 =>
        (am_stJ σ k3 v4 j1).bind fun s5 =>
        (am_gI s5 a0 0 11).bind fun v6 =>
        (am_pI s5 a0 0 11 (v6 + (nI 1))).bind fun s7 =>
        (am_gI s7 a0 0 11).bind fun v8 =>
        some ((v8, 0, none), s7)
      else
        some (((-nI 1), 0, none), σ) := (am_L_it d 4 27 true 0 [(0, .ref a0), (1, .long j1), (3, .int x2)] [] σ).symm
set_option maxRecDepth 100000 in
set_option maxHeartbeats 4000000 in
theorem e_X0_digestAt (d : Nat) (a0 : Nat) (x1 : Int32) (σ : am_H) : f_X0_digestAt (d + 1) a0 x1 σ =
    (am_gI σ a0 0 1).bind fun v1 =>
    bif decide (¬ v1 = (nI 1)) then
      bif decide (x1 < nI 0) then
        some ((0, (lN 0), none), σ)
      else
        (am_gI σ a0 0 11).bind fun v2 =>
        bif decide (v2 ≤ x1) then
          some ((0, (lN 0), none), σ)
        else
          (am_gR σ a0 0 10).bind fun k3 =>
          (am_ldJ σ k3 x1).bind fun w4 =>
          some ((0, w4, none), σ)
    else
      bif decide (¬ x1 = nI 0) then
        some ((0, (lN 0), none), σ)
      else
        (am_gR σ a0 0 9).bind fun k5 =>
        bif am_is σ k5 5 then
          (f_X5_digest d k5 σ).bind fun r6 =>
          (am_gJ r6.2 a0 0 14).bind fun w7 =>
          some ((0, (r6.1.2.1 ^^^ w7), none), r6.2)
        else none := (am_L_it (d + 1) 5 30 true 0 [(0, .ref a0), (1, .int x1)] [] σ).symm
set_option maxRecDepth 100000 in
set_option maxHeartbeats 4000000 in
theorem e_X0_comeSoFar (d : Nat) (a0 : Nat) (σ : am_H) : f_X0_comeSoFar d a0 σ =
    (am_gI σ a0 0 1).bind fun v1 =>
    bif decide (v1 = nI 0) then
      (am_gI σ a0 0 13).bind fun v2 =>
      some ((v2, 0, none), σ)
    else
    bif decide (v1 = nI 1) then
      some (((nI 0), 0, none), σ)
    else
    bif decide (v1 = nI 2) then
      (am_gR σ a0 0 9).bind fun k3 =>
      (am_gI σ k3 5 1).bind fun v4 =>
      some ((v4, 0, none), σ)
    else
    bif decide (v1 = nI 3) then
      (am_gI σ a0 0 11).bind fun v5 =>
      some ((v5, 0, none), σ)
    else
      some (((nI 0), 0, none), σ) := (am_L_it d 6 17 true 0 [(0, .ref a0)] [] σ).symm
set_option maxRecDepth 100000 in
set_option maxHeartbeats 4000000 in
theorem e_X0_missingPlace (d : Nat) (a0 : Nat) (x1 : Int32) (σ : am_H) : f_X0_missingPlace d a0 x1 σ =
    l_X0_missingPlace_4 d a0 x1 (nI 0) (nI 0) σ := (am_L_it d 7 26 true 0 [(0, .ref a0), (1, .int x1)] [] σ).symm
set_option maxRecDepth 100000 in
set_option maxHeartbeats 4000000 in
theorem e_X0_takeAnswer (d : Nat) (a0 : Nat) (x1 : Int32) (x2 : Int32) (σ : am_H) : f_X0_takeAnswer (d + 1) a0 x1 x2 σ =
    bif decide (x1 < nI 0) then
      some ((0, 0, none), σ)
    else
      (am_gI σ a0 0 11).bind fun v1 =>
      bif decide (v1 ≤ x1) then
        some ((0, 0, none), σ)
      else
        (am_gR σ a0 0 12).bind fun k2 =>
        (am_ldI σ k2 1 x1).bind fun v3 =>
        bif decide (v3 = nI 0) then
          (am_gR σ a0 0 12).bind fun k4 =>
          bif decide (x2 = nI 0) then
            l_X0_takeAnswer_36 (d + 1) a0 (nI 2) x1 k4 σ
          else
            l_X0_takeAnswer_36 (d + 1) a0 (nI 1) x1 k4 σ
        else
          some ((0, 0, none), σ) := (am_L_it (d + 1) 8 38 true 0 [(0, .ref a0), (1, .int x1), (2, .int x2)] [] σ).symm
set_option maxRecDepth 100000 in
set_option maxHeartbeats 4000000 in
theorem e_X1_init (d : Nat) (a0 : Nat) (a1 : Nat) (σ : am_H) : f_X1_init (d + 1) a0 a1 σ =
    (am_nwa σ 4 (nI 30)).bind fun s1 =>
    (am_pR s1 a0 1 1 (am_n σ)).bind fun s2 =>
    (am_pR s2 a0 1 0 a1).bind fun s3 =>
    l_X1_init_20 (d + 1) a0 (nI 0) s3 := (am_L_it (d + 1) 9 27 true 0 [(0, .ref a0), (1, .ref a1)] [] σ).symm
set_option maxRecDepth 100000 in
set_option maxHeartbeats 4000000 in
theorem e_X1_makeCall (d : Nat) (a0 : Nat) (x1 : Int32) (j2 : Int64) (σ : am_H) : f_X1_makeCall d a0 x1 j2 σ =
    (am_gI σ a0 1 2).bind fun v1 =>
    bif decide ((nI 30) ≤ v1) then
      some (((-nI 1), 0, none), σ)
    else
      bif decide (x1 < nI 0) then
        some (((-nI 1), 0, none), σ)
      else
        bif decide (x1 ≤ (nI 4)) then
          (am_gR σ a0 1 1).bind fun k2 =>
          (am_gI σ a0 1 2).bind fun v3 =>
          (am_ldR σ k2 0 v3).bind fun k4 =>
          (am_pI σ k4 0 1 x1).bind fun s5 =>
          (am_gR s5 a0 1 1).bind fun k6 =>
          (am_gI s5 a0 1 2).bind fun v7 =>
          (am_ldR s5 k6 0 v7).bind fun k8 =>
          (am_pJ s5 k8 0 2 j2).bind fun s9 =>
          (am_gI s9 a0 1 2).bind fun v10 =>
          (am_pI s9 a0 1 2 (v10 + (nI 1))).bind fun s11 =>
          (am_gI s11 a0 1 2).bind fun v12 =>
          some (((v12 - (nI 1)), 0, none), s11)
        else
          some (((-nI 1), 0, none), σ) := (am_L_it d 10 38 true 0 [(0, .ref a0), (1, .int x1), (2, .long j2)] [] σ).symm
set_option maxRecDepth 100000 in
set_option maxHeartbeats 4000000 in
theorem e_X1_callAt (d : Nat) (a0 : Nat) (x1 : Int32) (σ : am_H) : f_X1_callAt d a0 x1 σ =
    bif decide (x1 < nI 0) then
      some ((0, 0, none), σ)
    else
      (am_gI σ a0 1 2).bind fun v1 =>
      bif decide (v1 ≤ x1) then
        some ((0, 0, none), σ)
      else
        (am_gR σ a0 1 1).bind fun k2 =>
        (am_ldR σ k2 0 x1).bind fun k3 =>
        some ((0, 0, some k3), σ) := (am_L_it d 11 15 true 0 [(0, .ref a0), (1, .int x1)] [] σ).symm
set_option maxRecDepth 100000 in
set_option maxHeartbeats 4000000 in
theorem e_X1_writeAt (d : Nat) (a0 : Nat) (x1 : Int32) (σ : am_H) : f_X1_writeAt (d + 1) a0 x1 σ =
    bif am_is σ a0 1 then
      (f_X1_callAt d a0 x1 σ).bind fun r1 =>
      am_cs r1.1.2.2 (
        some ((0, 0, none), r1.2)
      ) fun k2 =>
      (am_gI r1.2 k2 0 1).bind fun v3 =>
      bif decide (¬ v3 = (nI 1)) then
        some ((0, 0, none), r1.2)
      else
        some ((0, 0, some k2), r1.2)
    else none := (am_L_it (d + 1) 12 16 true 0 [(0, .ref a0), (1, .int x1)] [] σ).symm
set_option maxRecDepth 100000 in
set_option maxHeartbeats 4000000 in
theorem e_X1_open (d : Nat) (a0 : Nat) (a1 : Nat) (σ : am_H) : f_X1_open (d + 1) a0 a1 σ =
    (am_gI σ a1 0 1).bind fun v1 =>
    bif decide (v1 = nI 0) then
      bif am_is σ a0 1 then
        (f_X1_openFind d a0 a1 σ).bind fun r2 =>
        some ((0, 0, none), r2.2)
      else none
    else
    bif decide (v1 = nI 1) then
      (am_gR σ a0 1 0).bind fun k3 =>
      (am_gI σ a1 0 0).bind fun v4 =>
      bif am_is σ a1 0 then
        (f_X0_digestAt d a1 (nI 0) σ).bind fun r5 =>
        bif am_is r5.2 k3 7 then
          (f_X7_sendNumber d k3 v4 (nI 1) (nI 0) r5.1.2.1 r5.2).bind fun r6 =>
          some ((0, 0, none), r6.2)
        else none
      else none
    else
    bif decide (v1 = nI 2) then
      (am_gR σ a0 1 0).bind fun k7 =>
      (am_gI σ a1 0 0).bind fun v8 =>
      (am_gR σ a1 0 9).bind fun k9 =>
      (am_gI σ k9 5 1).bind fun v10 =>
      bif am_is σ a1 0 then
        (f_X0_digestAt d a1 (nI 0) σ).bind fun r11 =>
        bif am_is r11.2 k7 7 then
          (f_X7_sendNumber d k7 v8 (nI 2) v10 r11.1.2.1 r11.2).bind fun r12 =>
          some ((0, 0, none), r12.2)
        else none
      else none
    else
    bif decide (v1 = nI 3) then
      (am_pI σ a1 0 11 (nI 0)).bind fun s13 =>
      (am_gR s13 a0 1 0).bind fun k14 =>
      (am_gI s13 a1 0 0).bind fun v15 =>
      (am_gJ s13 a1 0 2).bind fun w16 =>
      bif am_is s13 k14 7 then
        (f_X7_sendNumber d k14 v15 (nI 3) (nI 0) w16 s13).bind fun r17 =>
        some ((0, 0, none), r17.2)
      else none
    else
      bif am_is σ a0 1 then
        (f_X1_openTell d a0 a1 σ).bind fun r18 =>
        some ((0, 0, none), r18.2)
      else none := (am_L_it (d + 1) 13 50 true 0 [(0, .ref a0), (1, .ref a1)] [] σ).symm
set_option maxRecDepth 100000 in
set_option maxHeartbeats 4000000 in
theorem e_X1_openFind (d : Nat) (a0 : Nat) (a1 : Nat) (σ : am_H) : f_X1_openFind (d + 1) a0 a1 σ =
    (am_gI σ a1 0 11).bind fun v1 =>
    bif decide (¬ v1 = nI 0) then
      l_X1_openFind_14 (d + 1) a0 a1 (nI 0) σ
    else
      bif am_is σ a1 0 then
        (f_X0_finish d a1 (nI 1) σ).bind fun r2 =>
        l_X1_openFind_14 (d + 1) a0 a1 (nI 0) r2.2
      else none := (am_L_it (d + 1) 14 33 true 0 [(0, .ref a0), (1, .ref a1)] [] σ).symm
set_option maxRecDepth 100000 in
set_option maxHeartbeats 4000000 in
theorem e_X1_openTell (d : Nat) (a0 : Nat) (a1 : Nat) (σ : am_H) : f_X1_openTell (d + 1) a0 a1 σ =
    (am_gR σ a0 1 0).bind fun k1 =>
    (am_gI σ a1 0 0).bind fun v2 =>
    (am_gJ σ a1 0 2).bind fun w3 =>
    bif am_is σ k1 7 then
      (f_X7_sendNumber d k1 v2 (nI 4) (nI 0) w3 σ).bind fun r4 =>
      l_X1_openTell_19 (d + 1) a0 a1 (nI 0) r4.2
    else none := (am_L_it (d + 1) 15 39 true 0 [(0, .ref a0), (1, .ref a1)] [] σ).symm
set_option maxRecDepth 100000 in
set_option maxHeartbeats 4000000 in
theorem e_X1_act (d : Nat) (a0 : Nat) (a1 : Nat) (σ : am_H) : f_X1_act (d + 1) a0 a1 σ =
    bif am_is σ a1 3 then
      (f_X3_number d a1 σ).bind fun r1 =>
      bif am_is r1.2 a0 1 then
        (f_X1_callAt d a0 r1.1.1 r1.2).bind fun r2 =>
        am_cs r2.1.2.2 (
          some ((0, 0, none), r2.2)
        ) fun k3 =>
        bif am_is r2.2 k3 0 then
          (f_X0_goesOn d k3 r2.2).bind fun r4 =>
          bif decide (¬ r4.1.1 = nI 0) then
            bif am_is r4.2 a1 3 then
              (f_X3_kind d a1 r4.2).bind fun r5 =>
              bif decide (¬ r5.1.1 = (nI 13)) then
                (am_gI r5.2 k3 0 1).bind fun v6 =>
                bif decide (v6 = nI 0) then
                  bif am_is r5.2 a0 1 then
                    (f_X1_actForFind d a0 k3 a1 r5.2).bind fun r7 =>
                    some ((0, 0, none), r7.2)
                  else none
                else
                bif decide (v6 = nI 1) then
                  bif am_is r5.2 a0 1 then
                    (f_X1_actForWrite d a0 k3 a1 r5.2).bind fun r8 =>
                    some ((0, 0, none), r8.2)
                  else none
                else
                bif decide (v6 = nI 2) then
                  bif am_is r5.2 a0 1 then
                    (f_X1_actForRead d a0 k3 a1 r5.2).bind fun r9 =>
                    some ((0, 0, none), r9.2)
                  else none
                else
                bif decide (v6 = nI 3) then
                  bif am_is r5.2 a0 1 then
                    (f_X1_actForAsk d a0 k3 a1 r5.2).bind fun r10 =>
                    some ((0, 0, none), r10.2)
                  else none
                else
                  bif am_is r5.2 a0 1 then
                    (f_X1_actForTell d a0 k3 a1 r5.2).bind fun r11 =>
                    some ((0, 0, none), r11.2)
                  else none
              else
                bif am_is r5.2 a0 1 then
                  (f_X1_takeError d a0 k3 a1 r5.2).bind fun r12 =>
                  some ((0, 0, none), r12.2)
                else none
            else none
          else
            some ((0, 0, none), r4.2)
        else none
      else none
    else none := (am_L_it (d + 1) 16 50 true 0 [(0, .ref a0), (1, .ref a1)] [] σ).symm
set_option maxRecDepth 100000 in
set_option maxHeartbeats 4000000 in
theorem e_X1_takeError (d : Nat) (a0 : Nat) (a1 : Nat) (a2 : Nat) (σ : am_H) : f_X1_takeError (d + 1) a0 a1 a2 σ =
    bif am_is σ a2 3 then
      (f_X3_dataSize d a2 σ).bind fun r1 =>
      bif decide (r1.1.1 = (nI 1)) then
        bif am_is r1.2 a2 3 then
          (f_X3_dataAt d a2 (nI 0) r1.2).bind fun r2 =>
          bif decide (¬ r2.1.1 = (nI 1)) then
            bif decide (r2.1.1 < (nI 2)) then
              some ((0, 0, none), r2.2)
            else
              bif decide ((nI 4) < r2.1.1) then
                some ((0, 0, none), r2.2)
              else
                bif am_is r2.2 a1 0 then
                  (f_X0_finish d a1 (-r2.1.1) r2.2).bind fun r3 =>
                  some ((0, 0, none), r3.2)
                else none
          else
            bif am_is r2.2 a0 1 then
              (f_X1_makeWait d a0 a1 r2.2).bind fun r4 =>
              some ((0, 0, none), r4.2)
            else none
        else none
      else
        some ((0, 0, none), r1.2)
    else none := (am_L_it (d + 1) 17 29 true 0 [(0, .ref a0), (1, .ref a1), (2, .ref a2)] [] σ).symm
set_option maxRecDepth 100000 in
set_option maxHeartbeats 4000000 in
theorem e_X1_makeWait (d : Nat) (a0 : Nat) (a1 : Nat) (σ : am_H) : f_X1_makeWait (d + 1) a0 a1 σ =
    (am_gI σ a1 0 8).bind fun v1 =>
    (am_pI σ a1 0 8 (v1 + (nI 1))).bind fun s2 =>
    (am_gI s2 a1 0 8).bind fun v3 =>
    bif decide (v3 < (nI 5)) then
      (am_pZ s2 a1 0 6 (nI 1)).bind fun s4 =>
      (am_gI s4 a0 1 3).bind fun v5 =>
      (am_gI s4 a1 0 8).bind fun v6 =>
      (am_pI s4 a1 0 7 (v5 + ((nI 1) <<< ((v6 - (nI 1)) &&& 31)))).bind fun s7 =>
      some ((0, 0, none), s7)
    else
      bif am_is s2 a1 0 then
        (f_X0_finish d a1 (-nI 5) s2).bind fun r8 =>
        some ((0, 0, none), r8.2)
      else none := (am_L_it (d + 1) 18 31 true 0 [(0, .ref a0), (1, .ref a1)] [] σ).symm
set_option maxRecDepth 100000 in
set_option maxHeartbeats 4000000 in
theorem e_X1_actForFind (d : Nat) (a0 : Nat) (a1 : Nat) (a2 : Nat) (σ : am_H) : f_X1_actForFind (d + 1) a0 a1 a2 σ =
    bif am_is σ a2 3 then
      (f_X3_kind d a2 σ).bind fun r1 =>
      bif decide (¬ r1.1.1 = (nI 10)) then
        some ((0, 0, none), r1.2)
      else
        bif am_is r1.2 a2 3 then
          (f_X3_dataSize d a2 r1.2).bind fun r2 =>
          bif decide (¬ r2.1.1 = (nI 1)) then
            some ((0, 0, none), r2.2)
          else
            bif am_is r2.2 a2 3 then
              (f_X3_place d a2 r2.2).bind fun r3 =>
              bif am_is r3.2 a2 3 then
                (f_X3_dataAt d a2 (nI 0) r3.2).bind fun r4 =>
                bif decide (r4.1.1 = nI 0) then
                  bif am_is r4.2 a1 0 then
                    (f_X0_takeAnswer d a1 r3.1.1 (nI 0) r4.2).bind fun r5 =>
                    some ((0, 0, none), r5.2)
                  else none
                else
                  bif am_is r4.2 a1 0 then
                    (f_X0_takeAnswer d a1 r3.1.1 (nI 1) r4.2).bind fun r6 =>
                    some ((0, 0, none), r6.2)
                  else none
              else none
            else none
        else none
    else none := (am_L_it (d + 1) 19 22 true 0 [(0, .ref a0), (1, .ref a1), (2, .ref a2)] [] σ).symm
set_option maxRecDepth 100000 in
set_option maxHeartbeats 4000000 in
theorem e_X1_actForWrite (d : Nat) (a0 : Nat) (a1 : Nat) (a2 : Nat) (σ : am_H) : f_X1_actForWrite (d + 1) a0 a1 a2 σ =
    bif am_is σ a2 3 then
      (f_X3_kind d a2 σ).bind fun r1 =>
      bif decide (¬ r1.1.1 = (nI 11)) then
        bif am_is r1.2 a2 3 then
          (f_X3_kind d a2 r1.2).bind fun r2 =>
          bif decide (¬ r2.1.1 = (nI 12)) then
            some ((0, 0, none), r2.2)
          else
            bif am_is r2.2 a2 3 then
              (f_X3_place d a2 r2.2).bind fun r3 =>
              (am_gR r3.2 a1 0 9).bind fun k4 =>
              (am_gI r3.2 k4 5 1).bind fun v5 =>
              bif decide (v5 < r3.1.1) then
                some ((0, 0, none), r3.2)
              else
                (am_gR r3.2 a0 1 0).bind fun k6 =>
                (am_gI r3.2 a1 0 0).bind fun v7 =>
                (am_gR r3.2 a1 0 9).bind fun k8 =>
                bif am_is r3.2 a2 3 then
                  (f_X3_place d a2 r3.2).bind fun r9 =>
                  bif am_is r9.2 k6 7 then
                    (f_X7_sendPieces d k6 v7 k8 r9.1.1 r9.2).bind fun r10 =>
                    some ((0, 0, none), r10.2)
                  else none
                else none
            else none
        else none
      else
        bif am_is r1.2 a1 0 then
          (f_X0_finish d a1 (nI 1) r1.2).bind fun r11 =>
          some ((0, 0, none), r11.2)
        else none
    else none := (am_L_it (d + 1) 20 30 true 0 [(0, .ref a0), (1, .ref a1), (2, .ref a2)] [] σ).symm
set_option maxRecDepth 100000 in
set_option maxHeartbeats 4000000 in
theorem e_X1_actForRead (d : Nat) (a0 : Nat) (a1 : Nat) (a2 : Nat) (σ : am_H) : f_X1_actForRead (d + 1) a0 a1 a2 σ =
    bif am_is σ a2 3 then
      (f_X3_kind d a2 σ).bind fun r1 =>
      bif decide (¬ r1.1.1 = (nI 7)) then
        bif am_is r1.2 a2 3 then
          (f_X3_kind d a2 r1.2).bind fun r2 =>
          bif decide (¬ r2.1.1 = (nI 8)) then
            some ((0, 0, none), r2.2)
          else
            bif am_is r2.2 a2 3 then
              (f_X3_place d a2 r2.2).bind fun r3 =>
              (am_gR r3.2 a1 0 9).bind fun k4 =>
              (am_gI r3.2 k4 5 1).bind fun v5 =>
              bif decide (r3.1.1 = v5) then
                (am_gR r3.2 a1 0 9).bind fun k6 =>
                bif am_is r3.2 k6 5 then
                  (f_X5_digest d k6 r3.2).bind fun r7 =>
                  bif am_is r7.2 a1 0 then
                    (f_X0_digestAt d a1 (nI 0) r7.2).bind fun r8 =>
                    bif decide (¬ (lg_cmp r7.1.2.1 r8.1.2.1) = nI 0) then
                      bif am_is r8.2 a1 0 then
                        (f_X0_finish d a1 (-nI 3) r8.2).bind fun r9 =>
                        some ((0, 0, none), r9.2)
                      else none
                    else
                      bif am_is r8.2 a1 0 then
                        (f_X0_finish d a1 (nI 1) r8.2).bind fun r10 =>
                        some ((0, 0, none), r10.2)
                      else none
                  else none
                else none
              else
                bif am_is r3.2 a0 1 then
                  (f_X1_makeWait d a0 a1 r3.2).bind fun r11 =>
                  some ((0, 0, none), r11.2)
                else none
            else none
        else none
      else
        (am_gR r1.2 a1 0 9).bind fun k12 =>
        bif am_is r1.2 k12 5 then
          (f_X5_appendPiece d k12 a2 r1.2).bind fun r13 =>
          some ((0, 0, none), r13.2)
        else none
    else none := (am_L_it (d + 1) 21 39 true 0 [(0, .ref a0), (1, .ref a1), (2, .ref a2)] [] σ).symm
set_option maxRecDepth 100000 in
set_option maxHeartbeats 4000000 in
theorem e_X1_actForAsk (d : Nat) (a0 : Nat) (a1 : Nat) (a2 : Nat) (σ : am_H) : f_X1_actForAsk (d + 1) a0 a1 a2 σ =
    bif am_is σ a2 3 then
      (f_X3_kind d a2 σ).bind fun r1 =>
      bif decide (¬ r1.1.1 = (nI 5)) then
        bif am_is r1.2 a2 3 then
          (f_X3_kind d a2 r1.2).bind fun r2 =>
          bif decide (¬ r2.1.1 = (nI 6)) then
            some ((0, 0, none), r2.2)
          else
            bif am_is r2.2 a2 3 then
              (f_X3_place d a2 r2.2).bind fun r3 =>
              (am_gI r3.2 a1 0 11).bind fun v4 =>
              bif decide (r3.1.1 = v4) then
                bif am_is r3.2 a1 0 then
                  (f_X0_finish d a1 (nI 1) r3.2).bind fun r5 =>
                  some ((0, 0, none), r5.2)
                else none
              else
                bif am_is r3.2 a0 1 then
                  (f_X1_makeWait d a0 a1 r3.2).bind fun r6 =>
                  some ((0, 0, none), r6.2)
                else none
            else none
        else none
      else
        bif am_is r1.2 a2 3 then
          (f_X3_hasNumber d a2 r1.2).bind fun r7 =>
          bif decide (r7.1.1 = nI 0) then
            some ((0, 0, none), r7.2)
          else
            bif am_is r7.2 a2 3 then
              (f_X3_place d a2 r7.2).bind fun r8 =>
              (am_gI r8.2 a1 0 11).bind fun v9 =>
              bif decide (¬ r8.1.1 = v9) then
                some ((0, 0, none), r8.2)
              else
                bif am_is r8.2 a2 3 then
                  (f_X3_numberData d a2 r8.2).bind fun r10 =>
                  bif am_is r10.2 a1 0 then
                    (f_X0_addDigest d a1 r10.1.2.1 (nI 3) r10.2).bind fun r11 =>
                    some ((0, 0, none), r11.2)
                  else none
                else none
            else none
        else none
    else none := (am_L_it (d + 1) 22 38 true 0 [(0, .ref a0), (1, .ref a1), (2, .ref a2)] [] σ).symm
set_option maxRecDepth 100000 in
set_option maxHeartbeats 4000000 in
theorem e_X1_actForTell (d : Nat) (a0 : Nat) (a1 : Nat) (a2 : Nat) (σ : am_H) : f_X1_actForTell (d + 1) a0 a1 a2 σ =
    bif am_is σ a2 3 then
      (f_X3_kind d a2 σ).bind fun r1 =>
      bif decide (¬ r1.1.1 = (nI 11)) then
        some ((0, 0, none), r1.2)
      else
        bif am_is r1.2 a1 0 then
          (f_X0_finish d a1 (nI 1) r1.2).bind fun r2 =>
          some ((0, 0, none), r2.2)
        else none
    else none := (am_L_it (d + 1) 23 10 true 0 [(0, .ref a0), (1, .ref a1), (2, .ref a2)] [] σ).symm
set_option maxRecDepth 100000 in
set_option maxHeartbeats 4000000 in
theorem e_X1_nextDue (d : Nat) (a0 : Nat) (x1 : Int32) (σ : am_H) : f_X1_nextDue (d + 1) a0 x1 σ =
    l_X1_nextDue_4 (d + 1) a0 x1 (nI 0) σ := (am_L_it (d + 1) 24 35 true 0 [(0, .ref a0), (1, .int x1)] [] σ).symm
set_option maxRecDepth 100000 in
set_option maxHeartbeats 4000000 in
theorem e_X1_runTick (d : Nat) (a0 : Nat) (σ : am_H) : f_X1_runTick (d + 1) a0 σ =
    l_X1_runTick_4 (d + 1) a0 (nI 0) (nI 0) σ := (am_L_it (d + 1) 25 46 true 0 [(0, .ref a0)] [] σ).symm
set_option maxRecDepth 100000 in
set_option maxHeartbeats 4000000 in
theorem e_X2_init (d : Nat) (a0 : Nat) (σ : am_H) : f_X2_init (d + 1) a0 σ =
    (am_new σ 5 2).bind fun s1 =>
    (f_X5_init d (am_n σ) s1).bind fun r2 =>
    (am_pR r2.2 a0 2 0 (am_n σ)).bind fun s3 =>
    some ((0, 0, none), s3) := (am_L_it (d + 1) 26 10 true 0 [(0, .ref a0)] [] σ).symm
set_option maxRecDepth 100000 in
set_option maxHeartbeats 4000000 in
theorem e_X3_init (d : Nat) (a0 : Nat) (x1 : Int32) (σ : am_H) : f_X3_init d a0 x1 σ =
    (am_nwa σ 1 (nI 45)).bind fun s1 =>
    (am_pR s1 a0 3 1 (am_n σ)).bind fun s2 =>
    (am_pI s2 a0 3 0 ((nI 4) + x1)).bind fun s3 =>
    some ((0, 0, none), s3) := (am_L_it d 27 14 true 0 [(0, .ref a0), (1, .int x1)] [] σ).symm
set_option maxRecDepth 100000 in
set_option maxHeartbeats 4000000 in
theorem e_X3_clear (d : Nat) (a0 : Nat) (σ : am_H) : f_X3_clear d a0 σ =
    (am_pI σ a0 3 2 (nI 0)).bind fun s1 =>
    some ((0, 0, none), s1) := (am_L_it d 28 6 true 0 [(0, .ref a0)] [] σ).symm
set_option maxRecDepth 100000 in
set_option maxHeartbeats 4000000 in
theorem e_X3_gather (d : Nat) (a0 : Nat) (x1 : Int32) (σ : am_H) : f_X3_gather (d + 1) a0 x1 σ =
    (am_gI σ a0 3 2).bind fun v1 =>
    bif decide (¬ v1 = nI 0) then
      l_X3_gather_20 (d + 1) a0 x1 σ
    else
      bif decide (x1 < (nI 4)) then
        some (((nI 2), 0, none), σ)
      else
        (am_gI σ a0 3 0).bind fun v2 =>
        bif decide (v2 < x1) then
          some (((nI 2), 0, none), σ)
        else
          l_X3_gather_20 (d + 1) a0 x1 σ := (am_L_it (d + 1) 29 61 true 0 [(0, .ref a0), (1, .int x1)] [] σ).symm
set_option maxRecDepth 100000 in
set_option maxHeartbeats 4000000 in
theorem e_X3_number (d : Nat) (a0 : Nat) (σ : am_H) : f_X3_number d a0 σ =
    (am_gR σ a0 3 1).bind fun k1 =>
    (am_ldI σ k1 1 (nI 1)).bind fun v2 =>
    some ((v2, 0, none), σ) := (am_L_it d 30 7 true 0 [(0, .ref a0)] [] σ).symm
set_option maxRecDepth 100000 in
set_option maxHeartbeats 4000000 in
theorem e_X3_kind (d : Nat) (a0 : Nat) (σ : am_H) : f_X3_kind d a0 σ =
    (am_gR σ a0 3 1).bind fun k1 =>
    (am_ldI σ k1 1 (nI 2)).bind fun v2 =>
    some ((v2, 0, none), σ) := (am_L_it d 31 7 true 0 [(0, .ref a0)] [] σ).symm
set_option maxRecDepth 100000 in
set_option maxHeartbeats 4000000 in
theorem e_X3_place (d : Nat) (a0 : Nat) (σ : am_H) : f_X3_place d a0 σ =
    (am_gR σ a0 3 1).bind fun k1 =>
    (am_ldI σ k1 1 (nI 3)).bind fun v2 =>
    some ((v2, 0, none), σ) := (am_L_it d 32 7 true 0 [(0, .ref a0)] [] σ).symm
set_option maxRecDepth 100000 in
set_option maxHeartbeats 4000000 in
theorem e_X3_dataSize (d : Nat) (a0 : Nat) (σ : am_H) : f_X3_dataSize d a0 σ =
    (am_gR σ a0 3 1).bind fun k1 =>
    (am_ldI σ k1 1 (nI 0)).bind fun v2 =>
    some (((v2 - (nI 4)), 0, none), σ) := (am_L_it d 33 9 true 0 [(0, .ref a0)] [] σ).symm
set_option maxRecDepth 100000 in
set_option maxHeartbeats 4000000 in
theorem e_X3_dataAt (d : Nat) (a0 : Nat) (x1 : Int32) (σ : am_H) : f_X3_dataAt (d + 1) a0 x1 σ =
    bif decide (x1 < nI 0) then
      some (((nI 0), 0, none), σ)
    else
      bif am_is σ a0 3 then
        (f_X3_dataSize d a0 σ).bind fun r1 =>
        bif decide (r1.1.1 ≤ x1) then
          some (((nI 0), 0, none), r1.2)
        else
          (am_gR r1.2 a0 3 1).bind fun k2 =>
          (am_ldI r1.2 k2 1 ((nI 4) + x1)).bind fun v3 =>
          some ((v3, 0, none), r1.2)
      else none := (am_L_it (d + 1) 34 17 true 0 [(0, .ref a0), (1, .int x1)] [] σ).symm
set_option maxRecDepth 100000 in
set_option maxHeartbeats 4000000 in
theorem e_X3_hasNumber (d : Nat) (a0 : Nat) (σ : am_H) : f_X3_hasNumber (d + 1) a0 σ =
    bif am_is σ a0 3 then
      (f_X3_dataSize d a0 σ).bind fun r1 =>
      bif decide (¬ r1.1.1 = (nI 8)) then
        bif am_zb (nI 0) then some (((nI 0), 0, none), r1.2) else none
      else
        bif am_zb (nI 1) then some (((nI 1), 0, none), r1.2) else none
    else none := (am_L_it (d + 1) 35 10 true 0 [(0, .ref a0)] [] σ).symm
set_option maxRecDepth 100000 in
set_option maxHeartbeats 4000000 in
theorem e_X3_numberData (d : Nat) (a0 : Nat) (σ : am_H) : f_X3_numberData (d + 1) a0 σ =
    l_X3_numberData_4 (d + 1) a0 (lN 0) (nI 0) σ := (am_L_it (d + 1) 36 22 true 0 [(0, .ref a0)] [] σ).symm
set_option maxRecDepth 100000 in
set_option maxHeartbeats 4000000 in
theorem e_X4_init (d : Nat) (a0 : Nat) (σ : am_H) : f_X4_init d a0 σ =
    (am_nwa σ 2 (nI 3)).bind fun s1 =>
    (am_pR s1 a0 4 0 (am_n σ)).bind fun s2 =>
    some ((0, 0, none), s2) := (am_L_it d 37 9 true 0 [(0, .ref a0)] [] σ).symm
set_option maxRecDepth 100000 in
set_option maxHeartbeats 4000000 in
theorem e_X4_start (d : Nat) (a0 : Nat) (j1 : Int64) (σ : am_H) : f_X4_start d a0 j1 σ =
    (am_pZ σ a0 4 3 (nI 1)).bind fun s1 =>
    (am_pJ s1 a0 4 1 j1).bind fun s2 =>
    (am_pI s2 a0 4 2 (nI 0)).bind fun s3 =>
    some ((0, 0, none), s3) := (am_L_it d 38 12 true 0 [(0, .ref a0), (1, .long j1)] [] σ).symm
set_option maxRecDepth 100000 in
set_option maxHeartbeats 4000000 in
theorem e_X4_addDigest (d : Nat) (a0 : Nat) (x1 : Int32) (j2 : Int64) (σ : am_H) : f_X4_addDigest d a0 x1 j2 σ =
    (am_gI σ a0 4 3).bind fun v1 =>
    bif decide (v1 = nI 0) then
      some ((0, 0, none), σ)
    else
      (am_gI σ a0 4 2).bind fun v2 =>
      bif decide (¬ x1 = v2) then
        some ((0, 0, none), σ)
      else
        (am_gI σ a0 4 2).bind fun v3 =>
        bif decide ((nI 3) ≤ v3) then
          some ((0, 0, none), σ)
        else
          (am_gR σ a0 4 0).bind fun k4 =>
          (am_gI σ a0 4 2).bind fun v5 =>
          (am_stJ σ k4 v5 j2).bind fun s6 =>
          (am_gI s6 a0 4 2).bind fun v7 =>
          (am_pI s6 a0 4 2 (v7 + (nI 1))).bind fun s8 =>
          some ((0, 0, none), s8) := (am_L_it d 39 26 true 0 [(0, .ref a0), (1, .int x1), (2, .long j2)] [] σ).symm
set_option maxRecDepth 100000 in
set_option maxHeartbeats 4000000 in
theorem e_X4_copyOf (d : Nat) (a0 : Nat) (a1 : Nat) (σ : am_H) : f_X4_copyOf d a0 a1 σ =
    (am_gR σ a1 4 0).bind fun k1 =>
    (am_gR σ a0 4 0).bind fun k2 =>
    (am_cpy σ k1 (nI 0) k2 (nI 0) (nI 3)).bind fun s3 =>
    (am_gJ s3 a1 4 1).bind fun w4 =>
    (am_pJ s3 a0 4 1 w4).bind fun s5 =>
    (am_gI s5 a1 4 2).bind fun v6 =>
    (am_pI s5 a0 4 2 v6).bind fun s7 =>
    (am_pZ s7 a0 4 3 (nI 1)).bind fun s8 =>
    some ((0, 0, none), s8) := (am_L_it d 40 22 true 0 [(0, .ref a0), (1, .ref a1)] [] σ).symm
set_option maxRecDepth 100000 in
set_option maxHeartbeats 4000000 in
theorem e_X5_init (d : Nat) (a0 : Nat) (σ : am_H) : f_X5_init d a0 σ =
    (am_nwa σ 1 (nI 60)).bind fun s1 =>
    (am_pR s1 a0 5 0 (am_n σ)).bind fun s2 =>
    some ((0, 0, none), s2) := (am_L_it d 41 9 true 0 [(0, .ref a0)] [] σ).symm
set_option maxRecDepth 100000 in
set_option maxHeartbeats 4000000 in
theorem e_X5_append (d : Nat) (a0 : Nat) (x1 : Int32) (σ : am_H) : f_X5_append d a0 x1 σ =
    (am_gI σ a0 5 1).bind fun v1 =>
    bif decide (v1 < (nI 60)) then
      (am_gR σ a0 5 0).bind fun k2 =>
      (am_gI σ a0 5 1).bind fun v3 =>
      (am_stI σ k2 v3 x1).bind fun s4 =>
      (am_gI s4 a0 5 1).bind fun v5 =>
      (am_pI s4 a0 5 1 (v5 + (nI 1))).bind fun s6 =>
      bif am_zb (nI 1) then some (((nI 1), 0, none), s6) else none
    else
      bif am_zb (nI 0) then some (((nI 0), 0, none), σ) else none := (am_L_it d 42 22 true 0 [(0, .ref a0), (1, .int x1)] [] σ).symm
set_option maxRecDepth 100000 in
set_option maxHeartbeats 4000000 in
theorem e_X5_appendPiece (d : Nat) (a0 : Nat) (a1 : Nat) (σ : am_H) : f_X5_appendPiece (d + 1) a0 a1 σ =
    bif am_is σ a1 3 then
      (f_X3_dataSize d a1 σ).bind fun r1 =>
      bif am_is r1.2 a1 3 then
        (f_X3_place d a1 r1.2).bind fun r2 =>
        (am_gI r2.2 a0 5 1).bind fun v3 =>
        bif decide (¬ r2.1.1 = v3) then
          some ((0, 0, none), r2.2)
        else
          (am_gI r2.2 a0 5 1).bind fun v4 =>
          bif decide ((v4 + r1.1.1) ≤ (nI 60)) then
            l_X5_appendPiece_30 (d + 1) a0 a1 r1.1.1 (nI 0) r2.2
          else
            some ((0, 0, none), r2.2)
      else none
    else none := (am_L_it (d + 1) 43 31 true 0 [(0, .ref a0), (1, .ref a1)] [] σ).symm
set_option maxRecDepth 100000 in
set_option maxHeartbeats 4000000 in
theorem e_X5_copyOf (d : Nat) (a0 : Nat) (a1 : Nat) (σ : am_H) : f_X5_copyOf d a0 a1 σ =
    (am_gR σ a1 5 0).bind fun k1 =>
    (am_gR σ a0 5 0).bind fun k2 =>
    (am_gI σ a1 5 1).bind fun v3 =>
    (am_cpy σ k1 (nI 0) k2 (nI 0) v3).bind fun s4 =>
    (am_gI s4 a1 5 1).bind fun v5 =>
    (am_pI s4 a0 5 1 v5).bind fun s6 =>
    some ((0, 0, none), s6) := (am_L_it d 44 16 true 0 [(0, .ref a0), (1, .ref a1)] [] σ).symm
set_option maxRecDepth 100000 in
set_option maxHeartbeats 4000000 in
theorem e_X5_digest (d : Nat) (a0 : Nat) (σ : am_H) : f_X5_digest d a0 σ =
    (am_gI σ a0 5 1).bind fun v1 =>
    l_X5_digest_8 d a0 (Int32.toInt64 v1) (nI 0) σ := (am_L_it d 45 26 true 0 [(0, .ref a0)] [] σ).symm
set_option maxRecDepth 100000 in
set_option maxHeartbeats 4000000 in
theorem e_l_X0_missingPlace_4 (d : Nat) (a0 : Nat) (x1 : Int32) (x2 : Int32) (x3 : Int32) (σ : am_H) : l_X0_missingPlace_4 d a0 x1 x2 x3 σ =
    (am_gI σ a0 0 11).bind fun v1 =>
    bif decide (v1 ≤ x3) then
      some (((-nI 1), 0, none), σ)
    else
      (am_gR σ a0 0 12).bind fun k2 =>
      (am_ldI σ k2 1 x3).bind fun v3 =>
      bif decide (¬ v3 = (nI 2)) then
        l_X0_missingPlace_4 d a0 x1 x2 (x3 + nI 1) σ
      else
        bif decide (¬ x2 = x1) then
          l_X0_missingPlace_4 d a0 x1 (x2 + nI 1) (x3 + nI 1) σ
        else
          some ((x3, 0, none), σ) := (am_L_it d 7 26 true 4 [(0, .ref a0), (1, .int x1), (2, .int x2), (3, .int x3)] [] σ).symm
set_option maxRecDepth 100000 in
set_option maxHeartbeats 4000000 in
theorem e_l_X0_takeAnswer_36 (d : Nat) (a0 : Nat) (t0 : Int32) (t1 : Int32) (p2 : Nat) (σ : am_H) : l_X0_takeAnswer_36 (d + 1) a0 t0 t1 p2 σ =
    (am_stI σ p2 t1 t0).bind fun s1 =>
    (am_gI s1 a0 0 13).bind fun v2 =>
    (am_pI s1 a0 0 13 (v2 + (nI 1))).bind fun s3 =>
    (am_gI s3 a0 0 13).bind fun v4 =>
    (am_gI s3 a0 0 11).bind fun v5 =>
    bif decide (¬ v4 = v5) then
      some ((0, 0, none), s3)
    else
      bif am_is s3 a0 0 then
        (f_X0_finish d a0 (nI 1) s3).bind fun r6 =>
        some ((0, 0, none), r6.2)
      else none := (am_L_it (d + 1) 8 38 true 36 [(0, .ref a0)] [.int t0, .int t1, .ref p2] σ).symm
set_option maxRecDepth 100000 in
set_option maxHeartbeats 4000000 in
theorem e_l_X1_init_20 (d : Nat) (a0 : Nat) (x2 : Int32) (σ : am_H) : l_X1_init_20 (d + 1) a0 x2 σ =
    bif decide ((nI 30) ≤ x2) then
      some ((0, 0, none), σ)
    else
      (am_gR σ a0 1 1).bind fun k1 =>
      (am_new σ 0 15).bind fun s2 =>
      (f_X0_init d (am_n σ) x2 s2).bind fun r3 =>
      (am_stR r3.2 k1 0 x2 (am_n σ)).bind fun s4 =>
      l_X1_init_20 (d + 1) a0 (x2 + nI 1) s4 := (am_L_it (d + 1) 9 27 true 20 [(0, .ref a0), (2, .int x2)] [] σ).symm
set_option maxRecDepth 100000 in
set_option maxHeartbeats 4000000 in
theorem e_l_X1_openFind_14 (d : Nat) (a0 : Nat) (a1 : Nat) (x2 : Int32) (σ : am_H) : l_X1_openFind_14 (d + 1) a0 a1 x2 σ =
    (am_gI σ a1 0 11).bind fun v1 =>
    bif decide (v1 ≤ x2) then
      some ((0, 0, none), σ)
    else
      (am_gR σ a1 0 12).bind fun k2 =>
      (am_ldI σ k2 1 x2).bind fun v3 =>
      bif decide (¬ v3 = nI 0) then
        l_X1_openFind_14 (d + 1) a0 a1 (x2 + nI 1) σ
      else
        (am_gR σ a0 1 0).bind fun k4 =>
        (am_gI σ a1 0 0).bind fun v5 =>
        (am_gR σ a1 0 10).bind fun k6 =>
        (am_ldJ σ k6 x2).bind fun w7 =>
        bif am_is σ k4 7 then
          (f_X7_sendNumber d k4 v5 (nI 0) x2 w7 σ).bind fun r8 =>
          l_X1_openFind_14 (d + 1) a0 a1 (x2 + nI 1) r8.2
        else none := (am_L_it (d + 1) 14 33 true 14 [(0, .ref a0), (1, .ref a1), (2, .int x2)] [] σ).symm
set_option maxRecDepth 100000 in
set_option maxHeartbeats 4000000 in
theorem e_l_X1_openTell_19 (d : Nat) (a0 : Nat) (a1 : Nat) (x2 : Int32) (σ : am_H) : l_X1_openTell_19 (d + 1) a0 a1 x2 σ =
    (am_gI σ a1 0 11).bind fun v1 =>
    bif decide (v1 ≤ x2) then
      (am_gR σ a0 1 0).bind fun k2 =>
      (am_gI σ a1 0 0).bind fun v3 =>
      (am_gI σ a1 0 11).bind fun v4 =>
      bif am_is σ k2 7 then
        (f_X7_sendEmpty d k2 v3 (nI 6) v4 σ).bind fun r5 =>
        some ((0, 0, none), r5.2)
      else none
    else
      (am_gR σ a0 1 0).bind fun k6 =>
      (am_gI σ a1 0 0).bind fun v7 =>
      (am_gR σ a1 0 10).bind fun k8 =>
      (am_ldJ σ k8 x2).bind fun w9 =>
      bif am_is σ k6 7 then
        (f_X7_sendNumber d k6 v7 (nI 5) x2 w9 σ).bind fun r10 =>
        l_X1_openTell_19 (d + 1) a0 a1 (x2 + nI 1) r10.2
      else none := (am_L_it (d + 1) 15 39 true 19 [(0, .ref a0), (1, .ref a1), (2, .int x2)] [] σ).symm
set_option maxRecDepth 100000 in
set_option maxHeartbeats 4000000 in
theorem e_l_X1_nextDue_4 (d : Nat) (a0 : Nat) (x2 : Int32) (x3 : Int32) (σ : am_H) : l_X1_nextDue_4 (d + 1) a0 x2 x3 σ =
    (am_gI σ a0 1 2).bind fun v1 =>
    bif decide (v1 ≤ x3) then
      some ((x2, 0, none), σ)
    else
      (am_gR σ a0 1 1).bind fun k2 =>
      (am_ldR σ k2 0 x3).bind fun k3 =>
      bif am_is σ k3 0 then
        (f_X0_goesOn d k3 σ).bind fun r4 =>
        bif decide (r4.1.1 = nI 0) then
          l_X1_nextDue_4 (d + 1) a0 x2 (x3 + nI 1) r4.2
        else
          (am_gI r4.2 k3 0 5).bind fun v5 =>
          (am_gI r4.2 k3 0 6).bind fun v6 =>
          bif decide (v6 = nI 0) then
            l_X1_nextDue_4 (d + 1) a0 (if v5 < x2 then v5 else x2) (x3 + nI 1) r4.2
          else
            (am_gI r4.2 k3 0 7).bind fun v7 =>
            l_X1_nextDue_4 (d + 1) a0 (if v7 < (if v5 < x2 then v5 else x2) then v7 else (if v5 < x2 then v5 else x2)) (x3 + nI 1) r4.2
      else none := (am_L_it (d + 1) 24 35 true 4 [(0, .ref a0), (2, .int x2), (3, .int x3)] [] σ).symm
set_option maxRecDepth 100000 in
set_option maxHeartbeats 4000000 in
theorem e_l_X1_runTick_4 (d : Nat) (a0 : Nat) (x1 : Int32) (x2 : Int32) (σ : am_H) : l_X1_runTick_4 (d + 1) a0 x1 x2 σ =
    (am_gI σ a0 1 2).bind fun v1 =>
    bif decide (v1 ≤ x2) then
      some ((x1, 0, none), σ)
    else
      (am_gR σ a0 1 1).bind fun k2 =>
      (am_ldR σ k2 0 x2).bind fun k3 =>
      bif am_is σ k3 0 then
        (f_X0_goesOn d k3 σ).bind fun r4 =>
        bif decide (r4.1.1 = nI 0) then
          l_X1_runTick_4 (d + 1) a0 x1 (x2 + nI 1) r4.2
        else
          (am_gI r4.2 a0 1 3).bind fun v5 =>
          (am_gI r4.2 k3 0 5).bind fun v6 =>
          bif decide (v5 < v6) then
            (am_gI r4.2 k3 0 6).bind fun v7 =>
            bif decide (v7 = nI 0) then
              l_X1_runTick_4 (d + 1) a0 x1 (x2 + nI 1) r4.2
            else
              (am_gI r4.2 a0 1 3).bind fun v8 =>
              (am_gI r4.2 k3 0 7).bind fun v9 =>
              bif decide (v8 < v9) then
                l_X1_runTick_4 (d + 1) a0 x1 (x2 + nI 1) r4.2
              else
                (am_pZ r4.2 k3 0 6 (nI 0)).bind fun s10 =>
                bif am_is s10 a0 1 then
                  (f_X1_open d a0 k3 s10).bind fun r11 =>
                  l_X1_runTick_4 (d + 1) a0 x1 (x2 + nI 1) r11.2
                else none
          else
            bif am_is r4.2 k3 0 then
              (f_X0_finish d k3 (-nI 1) r4.2).bind fun r12 =>
              l_X1_runTick_4 (d + 1) a0 (x1 + nI 1) (x2 + nI 1) r12.2
            else none
      else none := (am_L_it (d + 1) 25 46 true 4 [(0, .ref a0), (1, .int x1), (2, .int x2)] [] σ).symm
set_option maxRecDepth 100000 in
set_option maxHeartbeats 4000000 in
theorem e_l_X3_gather_20 (d : Nat) (a0 : Nat) (x1 : Int32) (σ : am_H) : l_X3_gather_20 (d + 1) a0 x1 σ =
    (am_gI σ a0 3 2).bind fun v1 =>
    (am_gR σ a0 3 1).bind fun k2 =>
    (am_len σ k2).bind fun v3 =>
    bif decide (v1 < v3) then
      (am_gR σ a0 3 1).bind fun k4 =>
      (am_gI σ a0 3 2).bind fun v5 =>
      (am_stI σ k4 v5 x1).bind fun s6 =>
      (am_gI s6 a0 3 2).bind fun v7 =>
      (am_pI s6 a0 3 2 (v7 + (nI 1))).bind fun s8 =>
      (am_gI s8 a0 3 2).bind fun v9 =>
      (am_gR s8 a0 3 1).bind fun k10 =>
      (am_ldI s8 k10 1 (nI 0)).bind fun v11 =>
      bif decide (v11 < v9) then
        (am_gR s8 a0 3 1).bind fun k12 =>
        (am_gI s8 a0 3 2).bind fun v13 =>
        (am_ldI s8 k12 1 (v13 - (nI 1))).bind fun v14 =>
        (am_gR s8 a0 3 1).bind fun k15 =>
        (am_gI s8 a0 3 2).bind fun v16 =>
        (f_X8_sumOf d k15 (nI 0) (v16 - (nI 1)) s8).bind fun r17 =>
        bif decide (¬ v14 = r17.1.1) then
          some (((nI 2), 0, none), r17.2)
        else
          some (((nI 1), 0, none), r17.2)
      else
        some (((nI 0), 0, none), s8)
    else
      some (((nI 2), 0, none), σ) := (am_L_it (d + 1) 29 61 true 20 [(0, .ref a0), (1, .int x1)] [] σ).symm
set_option maxRecDepth 100000 in
set_option maxHeartbeats 4000000 in
theorem e_l_X3_numberData_4 (d : Nat) (a0 : Nat) (j1 : Int64) (x3 : Int32) (σ : am_H) : l_X3_numberData_4 (d + 1) a0 j1 x3 σ =
    bif decide ((nI 8) ≤ x3) then
      some ((0, j1, none), σ)
    else
      bif am_is σ a0 3 then
        (f_X3_dataAt d a0 x3 σ).bind fun r1 =>
        l_X3_numberData_4 (d + 1) a0 ((j1 <<< (Int32.toInt64 (nI 8) &&& 63)) ||| (Int32.toInt64 r1.1.1)) (x3 + nI 1) r1.2
      else none := (am_L_it (d + 1) 36 22 true 4 [(0, .ref a0), (1, .long j1), (3, .int x3)] [] σ).symm
set_option maxRecDepth 100000 in
set_option maxHeartbeats 4000000 in
theorem e_l_X5_appendPiece_30 (d : Nat) (a0 : Nat) (a1 : Nat) (x2 : Int32) (x3 : Int32) (σ : am_H) : l_X5_appendPiece_30 (d + 1) a0 a1 x2 x3 σ =
    bif decide (x2 ≤ x3) then
      some ((0, 0, none), σ)
    else
      bif am_is σ a1 3 then
        (f_X3_dataAt d a1 x3 σ).bind fun r1 =>
        bif am_is r1.2 a0 5 then
          (f_X5_append d a0 r1.1.1 r1.2).bind fun r2 =>
          l_X5_appendPiece_30 (d + 1) a0 a1 x2 (x3 + nI 1) r2.2
        else none
      else none := (am_L_it (d + 1) 43 31 true 30 [(0, .ref a0), (1, .ref a1), (2, .int x2), (3, .int x3)] [] σ).symm
set_option maxRecDepth 100000 in
set_option maxHeartbeats 4000000 in
theorem e_l_X5_digest_8 (d : Nat) (a0 : Nat) (j1 : Int64) (x3 : Int32) (σ : am_H) : l_X5_digest_8 d a0 j1 x3 σ =
    (am_gI σ a0 5 1).bind fun v1 =>
    bif decide (v1 ≤ x3) then
      some ((0, j1, none), σ)
    else
      (am_gR σ a0 5 0).bind fun k2 =>
      (am_ldI σ k2 1 x3).bind fun v3 =>
      l_X5_digest_8 d a0 ((j1 ^^^ (Int32.toInt64 v3)) * (lN 1099511628211)) (x3 + nI 1) σ := (am_L_it d 45 26 true 8 [(0, .ref a0), (1, .long j1), (3, .int x3)] [] σ).symm
