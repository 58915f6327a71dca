/-! what each stretch does (by program) -/
set_option maxRecDepth 100000 in
set_option maxHeartbeats 4000000 in
theorem e_X6_init (d : Nat) (a0 : Nat) (a1 : Nat) (σ : am_H) : f_X6_init (d + 1) a0 a1 σ =
    (am_nwa σ 6 (nI 10)).bind fun s1 =>
    (am_pR s1 a0 6 1 (am_n σ)).bind fun s2 =>
    (am_nwa s2 8 (nI 10)).bind fun s3 =>
    (am_pR s3 a0 6 2 (am_n s2)).bind fun s4 =>
    (am_nwa s4 6 (nI 30)).bind fun s5 =>
    (am_pR s5 a0 6 3 (am_n s4)).bind fun s6 =>
    (am_nwa s6 8 (nI 30)).bind fun s7 =>
    (am_pR s7 a0 6 4 (am_n s6)).bind fun s8 =>
    (am_pR s8 a0 6 0 a1).bind fun s9 =>
    l_X6_init_47 (d + 1) a0 (nI 0) s9 := (am_L_it (d + 1) 46 73 true 0 [(0, .ref a0), (1, .ref a1)] [] σ).symm
set_option maxRecDepth 100000 in
set_option maxHeartbeats 4000000 in
theorem e_X6_blobCount (d : Nat) (a0 : Nat) (σ : am_H) : f_X6_blobCount d a0 σ =
    l_X6_blobCount_4 d a0 (nI 0) (nI 0) σ := (am_L_it d 47 25 true 0 [(0, .ref a0)] [] σ).symm
set_option maxRecDepth 100000 in
set_option maxHeartbeats 4000000 in
theorem e_X6_resultCount (d : Nat) (a0 : Nat) (σ : am_H) : f_X6_resultCount d a0 σ =
    l_X6_resultCount_4 d a0 (nI 0) (nI 0) σ := (am_L_it d 48 25 true 0 [(0, .ref a0)] [] σ).symm
set_option maxRecDepth 100000 in
set_option maxHeartbeats 4000000 in
theorem e_X6_partialSize (d : Nat) (a0 : Nat) (x1 : Int32) (σ : am_H) : f_X6_partialSize d a0 x1 σ =
    bif decide (x1 < nI 0) then
      some (((-nI 1), 0, none), σ)
    else
      bif decide ((nI 30) ≤ x1) then
        some (((-nI 1), 0, none), σ)
      else
        (am_gR σ a0 6 3).bind fun k1 =>
        (am_ldR σ k1 2 x1).bind fun k2 =>
        (am_gI σ k2 2 2).bind fun v3 =>
        bif decide (¬ v3 = nI 0) then
          (am_gR σ a0 6 3).bind fun k4 =>
          (am_ldR σ k4 2 x1).bind fun k5 =>
          (am_gR σ k5 2 0).bind fun k6 =>
          (am_gI σ k6 5 1).bind fun v7 =>
          some ((v7, 0, none), σ)
        else
          some (((-nI 1), 0, none), σ) := (am_L_it d 49 22 true 0 [(0, .ref a0), (1, .int x1)] [] σ).symm
set_option maxRecDepth 100000 in
set_option maxHeartbeats 4000000 in
theorem e_X6_dropBlob (d : Nat) (a0 : Nat) (j1 : Int64) (σ : am_H) : f_X6_dropBlob (d + 1) a0 j1 σ =
    bif am_is σ a0 6 then
      (f_X6_blobOf d a0 j1 σ).bind fun r1 =>
      am_cs r1.1.2.2 (
        bif am_zb (nI 0) then some (((nI 0), 0, none), r1.2) else none
      ) fun k2 =>
      (am_pZ r1.2 k2 2 2 (nI 0)).bind fun s3 =>
      bif am_zb (nI 1) then some (((nI 1), 0, none), s3) else none
    else none := (am_L_it (d + 1) 50 15 true 0 [(0, .ref a0), (1, .long j1)] [] σ).symm
set_option maxRecDepth 100000 in
set_option maxHeartbeats 4000000 in
theorem e_X6_blobOf (d : Nat) (a0 : Nat) (j1 : Int64) (σ : am_H) : f_X6_blobOf d a0 j1 σ =
    l_X6_blobOf_2 d a0 j1 (nI 0) σ := (am_L_it d 51 30 true 0 [(0, .ref a0), (1, .long j1)] [] σ).symm
set_option maxRecDepth 100000 in
set_option maxHeartbeats 4000000 in
theorem e_X6_freeBlob (d : Nat) (a0 : Nat) (σ : am_H) : f_X6_freeBlob d a0 σ =
    l_X6_freeBlob_2 d a0 (nI 0) σ := (am_L_it d 52 22 true 0 [(0, .ref a0)] [] σ).symm
set_option maxRecDepth 100000 in
set_option maxHeartbeats 4000000 in
theorem e_X6_resultOf (d : Nat) (a0 : Nat) (j1 : Int64) (σ : am_H) : f_X6_resultOf d a0 j1 σ =
    l_X6_resultOf_2 d a0 j1 (nI 0) σ := (am_L_it d 53 30 true 0 [(0, .ref a0), (1, .long j1)] [] σ).symm
set_option maxRecDepth 100000 in
set_option maxHeartbeats 4000000 in
theorem e_X6_freeResult (d : Nat) (a0 : Nat) (σ : am_H) : f_X6_freeResult d a0 σ =
    l_X6_freeResult_2 d a0 (nI 0) σ := (am_L_it d 54 22 true 0 [(0, .ref a0)] [] σ).symm
set_option maxRecDepth 100000 in
set_option maxHeartbeats 4000000 in
theorem e_X6_act (d : Nat) (a0 : Nat) (a1 : Nat) (σ : am_H) : f_X6_act (d + 1) a0 a1 σ =
    bif am_is σ a1 3 then
      (f_X3_number d a1 σ).bind fun r1 =>
      bif decide (r1.1.1 < nI 0) then
        some ((0, 0, none), r1.2)
      else
        bif decide (r1.1.1 < (nI 30)) then
          bif am_is r1.2 a1 3 then
            (f_X3_kind d a1 r1.2).bind fun r2 =>
            bif decide ((nI 5) < r2.1.1) then
              l_X6_act_32 (d + 1) a0 a1 r1.1.1 r2.2
            else
              bif am_is r2.2 a1 3 then
                (f_X3_hasNumber d a1 r2.2).bind fun r3 =>
                bif decide (¬ r3.1.1 = nI 0) then
                  l_X6_act_32 (d + 1) a0 a1 r1.1.1 r3.2
                else
                  some ((0, 0, none), r3.2)
              else none
          else none
        else
          some ((0, 0, none), r1.2)
    else none := (am_L_it (d + 1) 55 110 true 0 [(0, .ref a0), (1, .ref a1)] [] σ).symm
set_option maxRecDepth 100000 in
set_option maxHeartbeats 4000000 in
theorem e_X6_sendVerdict (d : Nat) (a0 : Nat) (x1 : Int32) (x2 : Int32) (σ : am_H) : f_X6_sendVerdict (d + 1) a0 x1 x2 σ =
    bif decide (¬ x2 = nI 0) then
      bif decide (x2 = (-nI 1)) then
        some ((0, 0, none), σ)
      else
        (am_gR σ a0 6 0).bind fun k1 =>
        bif am_is σ k1 7 then
          (f_X7_sendByte d k1 x1 (nI 13) (nI 0) x2 σ).bind fun r2 =>
          some ((0, 0, none), r2.2)
        else none
    else
      (am_gR σ a0 6 0).bind fun k3 =>
      bif am_is σ k3 7 then
        (f_X7_sendEmpty d k3 x1 (nI 11) (nI 0) σ).bind fun r4 =>
        some ((0, 0, none), r4.2)
      else none := (am_L_it (d + 1) 56 22 true 0 [(0, .ref a0), (1, .int x1), (2, .int x2)] [] σ).symm
set_option maxRecDepth 100000 in
set_option maxHeartbeats 4000000 in
theorem e_X6_putsOff (d : Nat) (a0 : Nat) (σ : am_H) : f_X6_putsOff d a0 σ =
    (am_gI σ a0 6 5).bind fun v1 =>
    bif decide ((nI 1) ≤ v1) then
      (am_gI σ a0 6 5).bind fun v2 =>
      (am_pI σ a0 6 5 (v2 - (nI 1))).bind fun s3 =>
      bif am_zb (nI 1) then some (((nI 1), 0, none), s3) else none
    else
      bif am_zb (nI 0) then some (((nI 0), 0, none), σ) else none := (am_L_it d 57 16 true 0 [(0, .ref a0)] [] σ).symm
set_option maxRecDepth 100000 in
set_option maxHeartbeats 4000000 in
theorem e_X6_answerFind (d : Nat) (a0 : Nat) (x1 : Int32) (j2 : Int64) (x3 : Int32) (σ : am_H) : f_X6_answerFind (d + 1) a0 x1 j2 x3 σ =
    (am_gR σ a0 6 0).bind fun k1 =>
    bif am_is σ a0 6 then
      (f_X6_blobOf d a0 j2 σ).bind fun r2 =>
      am_cs r2.1.2.2 (
        bif am_is r2.2 k1 7 then
          (f_X7_sendByte d k1 x1 (nI 10) x3 (nI 0) r2.2).bind fun r4 =>
          some ((0, 0, none), r4.2)
        else none
      ) fun k3 =>
      bif am_is r2.2 k1 7 then
        (f_X7_sendByte d k1 x1 (nI 10) x3 (nI 1) r2.2).bind fun r5 =>
        some ((0, 0, none), r5.2)
      else none
    else none := (am_L_it (d + 1) 58 16 true 0 [(0, .ref a0), (1, .int x1), (2, .long j2), (4, .int x3)] [] σ).symm
set_option maxRecDepth 100000 in
set_option maxHeartbeats 4000000 in
theorem e_X6_startWrite (d : Nat) (a0 : Nat) (x1 : Int32) (j2 : Int64) (σ : am_H) : f_X6_startWrite (d + 1) a0 x1 j2 σ =
    (am_gR σ a0 6 3).bind fun k1 =>
    (am_ldR σ k1 2 x1).bind fun k2 =>
    bif am_is σ a0 6 then
      (f_X6_blobOf d a0 j2 σ).bind fun r3 =>
      am_cs r3.1.2.2 (
        (am_gI r3.2 k2 2 2).bind fun v5 =>
        bif decide (¬ v5 = nI 0) then
          l_X6_startWrite_53 (d + 1) a0 x1 k2 r3.2
        else
          (am_pZ r3.2 k2 2 2 (nI 1)).bind fun s6 =>
          (am_pJ s6 k2 2 1 j2).bind fun s7 =>
          (am_gR s7 k2 2 0).bind fun k8 =>
          (am_pI s7 k8 5 1 (nI 0)).bind fun s9 =>
          l_X6_startWrite_53 (d + 1) a0 x1 k2 s9
      ) fun k4 =>
      (am_pZ r3.2 k2 2 2 (nI 0)).bind fun s10 =>
      some (((nI 0), 0, none), s10)
    else none := (am_L_it (d + 1) 59 39 true 0 [(0, .ref a0), (1, .int x1), (2, .long j2)] [] σ).symm
set_option maxRecDepth 100000 in
set_option maxHeartbeats 4000000 in
theorem e_X6_takePiece (d : Nat) (a0 : Nat) (a1 : Nat) (a2 : Nat) (σ : am_H) : f_X6_takePiece (d + 1) a0 a1 a2 σ =
    (am_gI σ a1 2 2).bind fun v1 =>
    bif decide (v1 = nI 0) then
      some ((0, 0, none), σ)
    else
      (am_gR σ a1 2 0).bind fun k2 =>
      bif am_is σ k2 5 then
        (f_X5_appendPiece d k2 a2 σ).bind fun r3 =>
        some ((0, 0, none), r3.2)
      else none := (am_L_it (d + 1) 60 10 true 0 [(0, .ref a0), (1, .ref a1), (2, .ref a2)] [] σ).symm
set_option maxRecDepth 100000 in
set_option maxHeartbeats 4000000 in
theorem e_X6_finishWrite (d : Nat) (a0 : Nat) (a1 : Nat) (x2 : Int32) (σ : am_H) : f_X6_finishWrite (d + 1) a0 a1 x2 σ =
    (am_gI σ a1 2 2).bind fun v1 =>
    bif decide (¬ v1 = nI 0) then
      bif am_is σ a0 6 then
        (f_X6_putsOff d a0 σ).bind fun r2 =>
        bif decide (¬ r2.1.1 = nI 0) then
          some (((nI 1), 0, none), r2.2)
        else
          (am_gR r2.2 a1 2 0).bind fun k3 =>
          (am_gI r2.2 k3 5 1).bind fun v4 =>
          bif decide (v4 = x2) then
            (am_pZ r2.2 a1 2 2 (nI 0)).bind fun s5 =>
            (am_gR s5 a1 2 0).bind fun k6 =>
            bif am_is s5 k6 5 then
              (f_X5_digest d k6 s5).bind fun r7 =>
              (am_gJ r7.2 a1 2 1).bind fun w8 =>
              bif decide ((lg_cmp r7.1.2.1 w8) = nI 0) then
                (am_gJ r7.2 a1 2 1).bind fun w9 =>
                bif am_is r7.2 a0 6 then
                  (f_X6_blobOf d a0 w9 r7.2).bind fun r10 =>
                  am_cs r10.1.2.2 (
                    bif am_is r10.2 a0 6 then
                      (f_X6_keepBlob d a0 a1 r10.2).bind fun r12 =>
                      some ((r12.1.1, 0, none), r12.2)
                    else none
                  ) fun k11 =>
                  some (((nI 0), 0, none), r10.2)
                else none
              else
                some (((nI 3), 0, none), r7.2)
            else none
          else
            some (((nI 1), 0, none), r2.2)
      else none
    else
      some (((-nI 1), 0, none), σ) := (am_L_it (d + 1) 61 40 true 0 [(0, .ref a0), (1, .ref a1), (2, .int x2)] [] σ).symm
set_option maxRecDepth 100000 in
set_option maxHeartbeats 4000000 in
theorem e_X6_keepBlob (d : Nat) (a0 : Nat) (a1 : Nat) (σ : am_H) : f_X6_keepBlob (d + 1) a0 a1 σ =
    bif am_is σ a0 6 then
      (f_X6_freeBlob d a0 σ).bind fun r1 =>
      am_cs r1.1.2.2 (
        some (((nI 4), 0, none), r1.2)
      ) fun k2 =>
      (am_pZ r1.2 k2 2 2 (nI 1)).bind fun s3 =>
      (am_gJ s3 a1 2 1).bind fun w4 =>
      (am_pJ s3 k2 2 1 w4).bind fun s5 =>
      (am_gR s5 k2 2 0).bind fun k6 =>
      (am_gR s5 a1 2 0).bind fun k7 =>
      bif am_is s5 k6 5 then
        (f_X5_copyOf d k6 k7 s5).bind fun r8 =>
        some (((nI 0), 0, none), r8.2)
      else none
    else none := (am_L_it (d + 1) 62 23 true 0 [(0, .ref a0), (1, .ref a1)] [] σ).symm
set_option maxRecDepth 100000 in
set_option maxHeartbeats 4000000 in
theorem e_X6_answerRead (d : Nat) (a0 : Nat) (x1 : Int32) (j2 : Int64) (x3 : Int32) (σ : am_H) : f_X6_answerRead (d + 1) a0 x1 j2 x3 σ =
    bif am_is σ a0 6 then
      (f_X6_putsOff d a0 σ).bind fun r1 =>
      bif decide (r1.1.1 = nI 0) then
        bif am_is r1.2 a0 6 then
          (f_X6_blobOf d a0 j2 r1.2).bind fun r2 =>
          am_cs r2.1.2.2 (
            some (((nI 2), 0, none), r2.2)
          ) fun k3 =>
          (am_gR r2.2 a0 6 0).bind fun k4 =>
          (am_gR r2.2 k3 2 0).bind fun k5 =>
          bif am_is r2.2 k4 7 then
            (f_X7_sendPieces d k4 x1 k5 x3 r2.2).bind fun r6 =>
            some (((-nI 1), 0, none), r6.2)
          else none
        else none
      else
        some (((nI 1), 0, none), r1.2)
    else none := (am_L_it (d + 1) 63 24 true 0 [(0, .ref a0), (1, .int x1), (2, .long j2), (4, .int x3)] [] σ).symm
set_option maxRecDepth 100000 in
set_option maxHeartbeats 4000000 in
theorem e_X6_answerAsk (d : Nat) (a0 : Nat) (x1 : Int32) (j2 : Int64) (σ : am_H) : f_X6_answerAsk (d + 1) a0 x1 j2 σ =
    bif am_is σ a0 6 then
      (f_X6_putsOff d a0 σ).bind fun r1 =>
      bif decide (r1.1.1 = nI 0) then
        bif am_is r1.2 a0 6 then
          (f_X6_resultOf d a0 j2 r1.2).bind fun r2 =>
          am_cs r2.1.2.2 (
            some (((nI 2), 0, none), r2.2)
          ) fun k3 =>
          bif am_is r2.2 a0 6 then
            (f_X6_hasAllBlobs d a0 k3 r2.2).bind fun r4 =>
            bif decide (¬ r4.1.1 = nI 0) then
              l_X6_answerAsk_35 (d + 1) a0 x1 k3 (nI 0) r4.2
            else
              some (((nI 2), 0, none), r4.2)
          else none
        else none
      else
        some (((nI 1), 0, none), r1.2)
    else none := (am_L_it (d + 1) 64 46 true 0 [(0, .ref a0), (1, .int x1), (2, .long j2)] [] σ).symm
set_option maxRecDepth 100000 in
set_option maxHeartbeats 4000000 in
theorem e_X6_hasAllBlobs (d : Nat) (a0 : Nat) (a1 : Nat) (σ : am_H) : f_X6_hasAllBlobs (d + 1) a0 a1 σ =
    l_X6_hasAllBlobs_2 (d + 1) a0 a1 (nI 0) σ := (am_L_it (d + 1) 65 21 true 0 [(0, .ref a0), (1, .ref a1)] [] σ).symm
set_option maxRecDepth 100000 in
set_option maxHeartbeats 4000000 in
theorem e_X6_finishTell (d : Nat) (a0 : Nat) (a1 : Nat) (x2 : Int32) (σ : am_H) : f_X6_finishTell (d + 1) a0 a1 x2 σ =
    (am_gI σ a1 4 3).bind fun v1 =>
    bif decide (¬ v1 = nI 0) then
      bif am_is σ a0 6 then
        (f_X6_putsOff d a0 σ).bind fun r2 =>
        bif decide (¬ r2.1.1 = nI 0) then
          some (((nI 1), 0, none), r2.2)
        else
          (am_gI r2.2 a1 4 2).bind fun v3 =>
          bif decide (v3 = x2) then
            (am_pZ r2.2 a1 4 3 (nI 0)).bind fun s4 =>
            (am_gJ s4 a1 4 1).bind fun w5 =>
            bif am_is s4 a0 6 then
              (f_X6_resultOf d a0 w5 s4).bind fun r6 =>
              am_cs r6.1.2.2 (
                bif am_is r6.2 a0 6 then
                  (f_X6_freeResult d a0 r6.2).bind fun r8 =>
                  am_cs r8.1.2.2 (
                    l_X6_finishTell_52 (d + 1) a1 r8.2
                  ) fun k9 =>
                  l_X6_finishTell_52_aa (d + 1) a1 k9 r8.2
                else none
              ) fun k7 =>
              l_X6_finishTell_52_aa (d + 1) a1 k7 r6.2
            else none
          else
            some (((nI 1), 0, none), r2.2)
      else none
    else
      some (((-nI 1), 0, none), σ) := (am_L_it (d + 1) 66 40 true 0 [(0, .ref a0), (1, .ref a1), (2, .int x2)] [] σ).symm
set_option maxRecDepth 100000 in
set_option maxHeartbeats 4000000 in
theorem e_X7_init (d : Nat) (a0 : Nat) (x1 : Int32) (σ : am_H) : f_X7_init d a0 x1 σ =
    (am_nwa σ 1 (nI 2000)).bind fun s1 =>
    (am_pR s1 a0 7 1 (am_n σ)).bind fun s2 =>
    (am_nwa s2 1 (nI 400)).bind fun s3 =>
    (am_pR s3 a0 7 2 (am_n s2)).bind fun s4 =>
    (am_nwa s4 1 (nI 8)).bind fun s5 =>
    (am_pR s5 a0 7 3 (am_n s4)).bind fun s6 =>
    (am_pI s6 a0 7 0 x1).bind fun s7 =>
    some ((0, 0, none), s7) := (am_L_it d 67 20 true 0 [(0, .ref a0), (1, .int x1)] [] σ).symm
set_option maxRecDepth 100000 in
set_option maxHeartbeats 4000000 in
theorem e_X7_clear (d : Nat) (a0 : Nat) (σ : am_H) : f_X7_clear d a0 σ =
    (am_pI σ a0 7 4 (nI 0)).bind fun s1 =>
    (am_pI s1 a0 7 5 (nI 0)).bind fun s2 =>
    (am_pI s2 a0 7 6 (nI 0)).bind fun s3 =>
    (am_pI s3 a0 7 7 (nI 0)).bind fun s4 =>
    (am_pI s4 a0 7 8 (nI 0)).bind fun s5 =>
    some ((0, 0, none), s5) := (am_L_it d 68 18 true 0 [(0, .ref a0)] [] σ).symm
set_option maxRecDepth 100000 in
set_option maxHeartbeats 4000000 in
theorem e_X7_sendEmpty (d : Nat) (a0 : Nat) (x1 : Int32) (x2 : Int32) (x3 : Int32) (σ : am_H) : f_X7_sendEmpty (d + 1) a0 x1 x2 x3 σ =
    (am_gR σ a0 7 3).bind fun k1 =>
    bif am_is σ a0 7 then
      (f_X7_send d a0 x1 x2 x3 k1 (nI 0) (nI 0) σ).bind fun r2 =>
      some ((0, 0, none), r2.2)
    else none := (am_L_it (d + 1) 69 12 true 0 [(0, .ref a0), (1, .int x1), (2, .int x2), (3, .int x3)] [] σ).symm
set_option maxRecDepth 100000 in
set_option maxHeartbeats 4000000 in
theorem e_X7_sendByte (d : Nat) (a0 : Nat) (x1 : Int32) (x2 : Int32) (x3 : Int32) (x4 : Int32) (σ : am_H) : f_X7_sendByte (d + 1) a0 x1 x2 x3 x4 σ =
    (am_gR σ a0 7 3).bind fun k1 =>
    (am_stI σ k1 (nI 0) x4).bind fun s2 =>
    (am_gR s2 a0 7 3).bind fun k3 =>
    bif am_is s2 a0 7 then
      (f_X7_send d a0 x1 x2 x3 k3 (nI 0) (nI 1) s2).bind fun r4 =>
      some ((0, 0, none), r4.2)
    else none := (am_L_it (d + 1) 70 17 true 0 [(0, .ref a0), (1, .int x1), (2, .int x2), (3, .int x3), (4, .int x4)] [] σ).symm
set_option maxRecDepth 100000 in
set_option maxHeartbeats 4000000 in
theorem e_X7_sendNumber (d : Nat) (a0 : Nat) (x1 : Int32) (x2 : Int32) (x3 : Int32) (j4 : Int64) (σ : am_H) : f_X7_sendNumber (d + 1) a0 x1 x2 x3 j4 σ =
    l_X7_sendNumber_3 (d + 1) a0 x1 x2 x3 j4 (nI 0) σ := (am_L_it (d + 1) 71 33 true 0 [(0, .ref a0), (1, .int x1), (2, .int x2), (3, .int x3), (4, .long j4)] [] σ).symm
set_option maxRecDepth 100000 in
set_option maxHeartbeats 4000000 in
theorem e_X7_sendPieces (d : Nat) (a0 : Nat) (x1 : Int32) (a2 : Nat) (x3 : Int32) (σ : am_H) : f_X7_sendPieces (d + 1) a0 x1 a2 x3 σ =
    l_X7_sendPieces_3 (d + 1) a0 x1 a2 x3 σ := (am_L_it (d + 1) 72 40 true 0 [(0, .ref a0), (1, .int x1), (2, .ref a2), (3, .int x3)] [] σ).symm
set_option maxRecDepth 100000 in
set_option maxHeartbeats 4000000 in
theorem e_X7_send (d : Nat) (a0 : Nat) (x1 : Int32) (x2 : Int32) (x3 : Int32) (a4 : Nat) (x5 : Int32) (x6 : Int32) (σ : am_H) : f_X7_send (d + 1) a0 x1 x2 x3 a4 x5 x6 σ =
    bif am_is σ a0 7 then
      (f_X7_makeRoom d a0 ((nI 5) + x6) σ).bind fun r1 =>
      bif decide (¬ r1.1.1 = nI 0) then
        (am_gI r1.2 a0 7 4).bind fun v2 =>
        (am_gI r1.2 a0 7 5).bind fun v3 =>
        (am_gR r1.2 a0 7 1).bind fun k4 =>
        (am_stI r1.2 k4 (v2 + v3) (((nI 5) + x6) - (nI 1))).bind fun s5 =>
        (am_gR s5 a0 7 1).bind fun k6 =>
        (am_stI s5 k6 ((v2 + v3) + (nI 1)) x1).bind fun s7 =>
        (am_gR s7 a0 7 1).bind fun k8 =>
        (am_stI s7 k8 ((v2 + v3) + (nI 2)) x2).bind fun s9 =>
        (am_gR s9 a0 7 1).bind fun k10 =>
        (am_stI s9 k10 ((v2 + v3) + (nI 3)) x3).bind fun s11 =>
        (am_gR s11 a0 7 1).bind fun k12 =>
        (am_cpy s11 a4 x5 k12 ((v2 + v3) + (nI 4)) x6).bind fun s13 =>
        (am_gR s13 a0 7 1).bind fun k14 =>
        (am_gR s13 a0 7 1).bind fun k15 =>
        (f_X8_sumOf d k15 (v2 + v3) (((v2 + v3) + ((nI 5) + x6)) - (nI 1)) s13).bind fun r16 =>
        (am_stI r16.2 k14 (((v2 + v3) + ((nI 5) + x6)) - (nI 1)) r16.1.1).bind fun s17 =>
        (am_gR s17 a0 7 2).bind fun k18 =>
        (am_gI s17 a0 7 6).bind fun v19 =>
        (am_gI s17 a0 7 7).bind fun v20 =>
        (am_stI s17 k18 (v19 + v20) ((nI 5) + x6)).bind fun s21 =>
        (am_gI s21 a0 7 7).bind fun v22 =>
        (am_pI s21 a0 7 7 (v22 + (nI 1))).bind fun s23 =>
        (am_gI s23 a0 7 5).bind fun v24 =>
        (am_pI s23 a0 7 5 (v24 + ((nI 5) + x6))).bind fun s25 =>
        some ((0, 0, none), s25)
      else
        some ((0, 0, none), r1.2)
    else none := (am_L_it (d + 1) 73 91 true 0 [(0, .ref a0), (1, .int x1), (2, .int x2), (3, .int x3), (4, .ref a4), (5, .int x5), (6, .int x6)] [] σ).symm
set_option maxRecDepth 100000 in
set_option maxHeartbeats 4000000 in
theorem e_X7_makeRoom (d : Nat) (a0 : Nat) (x1 : Int32) (σ : am_H) : f_X7_makeRoom d a0 x1 σ =
    (am_gI σ a0 7 5).bind fun v1 =>
    bif decide ((nI 2000) < (v1 + x1)) then
      (am_gI σ a0 7 9).bind fun v2 =>
      (am_pI σ a0 7 9 (v2 + (nI 1))).bind fun s3 =>
      bif am_zb (nI 0) then some (((nI 0), 0, none), s3) else none
    else
      (am_gI σ a0 7 7).bind fun v4 =>
      bif decide (v4 < (nI 400)) then
        (am_gI σ a0 7 4).bind fun v5 =>
        (am_gI σ a0 7 5).bind fun v6 =>
        bif decide ((nI 2000) < ((v5 + v6) + x1)) then
          l_X7_makeRoom_66 d a0 σ
        else
          (am_gI σ a0 7 6).bind fun v7 =>
          (am_gI σ a0 7 7).bind fun v8 =>
          bif decide ((v7 + v8) < (nI 400)) then
            bif am_zb (nI 1) then some (((nI 1), 0, none), σ) else none
          else
            l_X7_makeRoom_66 d a0 σ
      else
        (am_gI σ a0 7 9).bind fun v9 =>
        (am_pI σ a0 7 9 (v9 + (nI 1))).bind fun s10 =>
        bif am_zb (nI 0) then some (((nI 0), 0, none), s10) else none := (am_L_it d 74 64 true 0 [(0, .ref a0), (1, .int x1)] [] σ).symm
set_option maxRecDepth 100000 in
set_option maxHeartbeats 4000000 in
theorem e_X7_nextByte (d : Nat) (a0 : Nat) (σ : am_H) : f_X7_nextByte d a0 σ =
    (am_gI σ a0 7 5).bind fun v1 =>
    bif decide (v1 < (nI 1)) then
      some (((-nI 1), 0, none), σ)
    else
      (am_gI σ a0 7 7).bind fun v2 =>
      bif decide ((nI 1) ≤ v2) then
        (am_gR σ a0 7 1).bind fun k3 =>
        (am_gI σ a0 7 4).bind fun v4 =>
        (am_ldI σ k3 1 v4).bind fun v5 =>
        (am_gI σ a0 7 4).bind fun v6 =>
        (am_pI σ a0 7 4 (v6 + (nI 1))).bind fun s7 =>
        (am_gI s7 a0 7 5).bind fun v8 =>
        (am_pI s7 a0 7 5 (v8 - (nI 1))).bind fun s9 =>
        (am_gI s9 a0 7 8).bind fun v10 =>
        (am_pI s9 a0 7 8 (v10 + (nI 1))).bind fun s11 =>
        (am_gI s11 a0 7 8).bind fun v12 =>
        (am_gR s11 a0 7 2).bind fun k13 =>
        (am_gI s11 a0 7 6).bind fun v14 =>
        (am_ldI s11 k13 1 v14).bind fun v15 =>
        bif decide (v12 < v15) then
          some ((v5, 0, none), s11)
        else
          (am_gI s11 a0 7 6).bind fun v16 =>
          (am_pI s11 a0 7 6 (v16 + (nI 1))).bind fun s17 =>
          (am_gI s17 a0 7 7).bind fun v18 =>
          (am_pI s17 a0 7 7 (v18 - (nI 1))).bind fun s19 =>
          (am_pI s19 a0 7 8 (nI 0)).bind fun s20 =>
          some ((v5, 0, none), s20)
      else
        some (((-nI 1), 0, none), σ) := (am_L_it d 75 61 true 0 [(0, .ref a0)] [] σ).symm
set_option maxRecDepth 100000 in
set_option maxHeartbeats 4000000 in
theorem e_X7_untouched (d : Nat) (a0 : Nat) (σ : am_H) : f_X7_untouched d a0 σ =
    (am_gI σ a0 7 8).bind fun v1 =>
    bif decide (v1 ≤ nI 0) then
      (am_gI σ a0 7 7).bind fun v2 =>
      some ((v2, 0, none), σ)
    else
      (am_gI σ a0 7 7).bind fun v3 =>
      some (((v3 - (nI 1)), 0, none), σ) := (am_L_it d 76 13 true 0 [(0, .ref a0)] [] σ).symm
set_option maxRecDepth 100000 in
set_option maxHeartbeats 4000000 in
theorem e_X7_isUntouched (d : Nat) (a0 : Nat) (x1 : Int32) (σ : am_H) : f_X7_isUntouched (d + 1) a0 x1 σ =
    bif decide (x1 < nI 0) then
      bif am_zb (nI 0) then some (((nI 0), 0, none), σ) else none
    else
      bif am_is σ a0 7 then
        (f_X7_untouched d a0 σ).bind fun r1 =>
        bif decide (r1.1.1 ≤ x1) then
          bif am_zb (nI 0) then some (((nI 0), 0, none), r1.2) else none
        else
          bif am_zb (nI 1) then some (((nI 1), 0, none), r1.2) else none
      else none := (am_L_it (d + 1) 77 12 true 0 [(0, .ref a0), (1, .int x1)] [] σ).symm
set_option maxRecDepth 100000 in
set_option maxHeartbeats 4000000 in
theorem e_X7_frameIndex (d : Nat) (a0 : Nat) (x1 : Int32) (σ : am_H) : f_X7_frameIndex (d + 1) a0 x1 σ =
    (am_gI σ a0 7 6).bind fun v1 =>
    (am_gI σ a0 7 7).bind fun v2 =>
    bif am_is σ a0 7 then
      (f_X7_untouched d a0 σ).bind fun r3 =>
      some (((((v1 + v2) - r3.1.1) + x1), 0, none), r3.2)
    else none := (am_L_it (d + 1) 78 13 true 0 [(0, .ref a0), (1, .int x1)] [] σ).symm
set_option maxRecDepth 100000 in
set_option maxHeartbeats 4000000 in
theorem e_X7_startOf (d : Nat) (a0 : Nat) (x1 : Int32) (σ : am_H) : f_X7_startOf d a0 x1 σ =
    (am_gI σ a0 7 4).bind fun v1 =>
    (am_gI σ a0 7 8).bind fun v2 =>
    (am_gI σ a0 7 6).bind fun v3 =>
    l_X7_startOf_15 d a0 x1 (v1 - v2) v3 σ := (am_L_it d 79 25 true 0 [(0, .ref a0), (1, .int x1)] [] σ).symm
set_option maxRecDepth 100000 in
set_option maxHeartbeats 4000000 in
theorem e_X7_dropFrame (d : Nat) (a0 : Nat) (x1 : Int32) (σ : am_H) : f_X7_dropFrame (d + 1) a0 x1 σ =
    bif am_is σ a0 7 then
      (f_X7_isUntouched d a0 x1 σ).bind fun r1 =>
      bif decide (¬ r1.1.1 = nI 0) then
        bif am_is r1.2 a0 7 then
          (f_X7_frameIndex d a0 x1 r1.2).bind fun r2 =>
          bif am_is r2.2 a0 7 then
            (f_X7_startOf d a0 r2.1.1 r2.2).bind fun r3 =>
            (am_gR r3.2 a0 7 2).bind fun k4 =>
            (am_ldI r3.2 k4 1 r2.1.1).bind fun v5 =>
            (am_gR r3.2 a0 7 1).bind fun k6 =>
            (am_gR r3.2 a0 7 1).bind fun k7 =>
            (am_gI r3.2 a0 7 4).bind fun v8 =>
            (am_gI r3.2 a0 7 5).bind fun v9 =>
            (am_cpy r3.2 k6 (r3.1.1 + v5) k7 r3.1.1 ((v8 + v9) - (r3.1.1 + v5))).bind fun s10 =>
            (am_gR s10 a0 7 2).bind fun k11 =>
            (am_gR s10 a0 7 2).bind fun k12 =>
            (am_gI s10 a0 7 6).bind fun v13 =>
            (am_gI s10 a0 7 7).bind fun v14 =>
            (am_cpy s10 k11 (r2.1.1 + (nI 1)) k12 r2.1.1 (((v13 + v14) - r2.1.1) - (nI 1))).bind fun s15 =>
            (am_gI s15 a0 7 5).bind fun v16 =>
            (am_pI s15 a0 7 5 (v16 - v5)).bind fun s17 =>
            (am_gI s17 a0 7 7).bind fun v18 =>
            (am_pI s17 a0 7 7 (v18 - (nI 1))).bind fun s19 =>
            bif am_zb (nI 1) then some (((nI 1), 0, none), s19) else none
          else none
        else none
      else
        bif am_zb (nI 0) then some (((nI 0), 0, none), r1.2) else none
    else none := (am_L_it (d + 1) 80 71 true 0 [(0, .ref a0), (1, .int x1)] [] σ).symm
set_option maxRecDepth 100000 in
set_option maxHeartbeats 4000000 in
theorem e_X7_repeatFrame (d : Nat) (a0 : Nat) (x1 : Int32) (σ : am_H) : f_X7_repeatFrame (d + 1) a0 x1 σ =
    bif am_is σ a0 7 then
      (f_X7_isUntouched d a0 x1 σ).bind fun r1 =>
      bif decide (¬ r1.1.1 = nI 0) then
        (am_gR r1.2 a0 7 2).bind fun k2 =>
        bif am_is r1.2 a0 7 then
          (f_X7_frameIndex d a0 x1 r1.2).bind fun r3 =>
          (am_ldI r3.2 k2 1 r3.1.1).bind fun v4 =>
          bif am_is r3.2 a0 7 then
            (f_X7_makeRoom d a0 v4 r3.2).bind fun r5 =>
            bif decide (¬ r5.1.1 = nI 0) then
              bif am_is r5.2 a0 7 then
                (f_X7_frameIndex d a0 x1 r5.2).bind fun r6 =>
                bif am_is r6.2 a0 7 then
                  (f_X7_startOf d a0 r6.1.1 r6.2).bind fun r7 =>
                  (am_gR r7.2 a0 7 1).bind fun k8 =>
                  (am_gR r7.2 a0 7 1).bind fun k9 =>
                  (am_gI r7.2 a0 7 4).bind fun v10 =>
                  (am_gI r7.2 a0 7 5).bind fun v11 =>
                  (am_cpy r7.2 k8 r7.1.1 k9 (r7.1.1 + v4) ((v10 + v11) - r7.1.1)).bind fun s12 =>
                  (am_gR s12 a0 7 2).bind fun k13 =>
                  (am_gR s12 a0 7 2).bind fun k14 =>
                  (am_gI s12 a0 7 6).bind fun v15 =>
                  (am_gI s12 a0 7 7).bind fun v16 =>
                  (am_cpy s12 k13 r6.1.1 k14 (r6.1.1 + (nI 1)) ((v15 + v16) - r6.1.1)).bind fun s17 =>
                  (am_gI s17 a0 7 5).bind fun v18 =>
                  (am_pI s17 a0 7 5 (v18 + v4)).bind fun s19 =>
                  (am_gI s19 a0 7 7).bind fun v20 =>
                  (am_pI s19 a0 7 7 (v20 + (nI 1))).bind fun s21 =>
                  bif am_zb (nI 1) then some (((nI 1), 0, none), s21) else none
                else none
              else none
            else
              bif am_zb (nI 1) then some (((nI 1), 0, none), r5.2) else none
          else none
        else none
      else
        bif am_zb (nI 0) then some (((nI 0), 0, none), r1.2) else none
    else none := (am_L_it (d + 1) 81 75 true 0 [(0, .ref a0), (1, .int x1)] [] σ).symm
set_option maxRecDepth 100000 in
set_option maxHeartbeats 4000000 in
theorem e_X7_changeByte (d : Nat) (a0 : Nat) (x1 : Int32) (x2 : Int32) (σ : am_H) : f_X7_changeByte d a0 x1 x2 σ =
    bif decide (x1 < nI 0) then
      bif am_zb (nI 0) then some (((nI 0), 0, none), σ) else none
    else
      (am_gI σ a0 7 5).bind fun v1 =>
      bif decide (v1 ≤ x1) then
        bif am_zb (nI 0) then some (((nI 0), 0, none), σ) else none
      else
        bif decide (¬ x2 = nI 0) then
          (am_gR σ a0 7 1).bind fun k2 =>
          (am_gI σ a0 7 4).bind fun v3 =>
          (am_ldI σ k2 1 (v3 + x1)).bind fun v4 =>
          (am_stI σ k2 (v3 + x1) (v4 ^^^ x2)).bind fun s5 =>
          bif am_zb (nI 1) then some (((nI 1), 0, none), s5) else none
        else
          bif am_zb (nI 0) then some (((nI 0), 0, none), σ) else none := (am_L_it d 82 25 true 0 [(0, .ref a0), (1, .int x1), (2, .int x2)] [] σ).symm
set_option maxRecDepth 100000 in
set_option maxHeartbeats 4000000 in
theorem e_X7_byteAt (d : Nat) (a0 : Nat) (x1 : Int32) (σ : am_H) : f_X7_byteAt d a0 x1 σ =
    bif decide (x1 < nI 0) then
      some (((-nI 1), 0, none), σ)
    else
      (am_gI σ a0 7 5).bind fun v1 =>
      bif decide (v1 ≤ x1) then
        some (((-nI 1), 0, none), σ)
      else
        (am_gR σ a0 7 1).bind fun k2 =>
        (am_gI σ a0 7 4).bind fun v3 =>
        (am_ldI σ k2 1 (v3 + x1)).bind fun v4 =>
        some ((v4, 0, none), σ) := (am_L_it d 83 18 true 0 [(0, .ref a0), (1, .int x1)] [] σ).symm
set_option maxRecDepth 100000 in
set_option maxHeartbeats 4000000 in
theorem e_l_X6_init_47 (d : Nat) (a0 : Nat) (x2 : Int32) (σ : am_H) : l_X6_init_47 (d + 1) a0 x2 σ =
    bif decide ((nI 10) ≤ x2) then
      l_X6_init_74 (d + 1) a0 (nI 0) σ
    else
      (am_gR σ a0 6 1).bind fun k1 =>
      (am_new σ 2 3).bind fun s2 =>
      (f_X2_init d (am_n σ) s2).bind fun r3 =>
      (am_stR r3.2 k1 2 x2 (am_n σ)).bind fun s4 =>
      l_X6_init_47 (d + 1) a0 (x2 + nI 1) s4 := (am_L_it (d + 1) 46 73 true 47 [(0, .ref a0), (2, .int x2)] [] σ).symm
set_option maxRecDepth 100000 in
set_option maxHeartbeats 4000000 in
theorem e_l_X6_blobCount_4 (d : Nat) (a0 : Nat) (x1 : Int32) (x2 : Int32) (σ : am_H) : l_X6_blobCount_4 d a0 x1 x2 σ =
    bif decide ((nI 10) ≤ x2) then
      some ((x1, 0, none), σ)
    else
      (am_gR σ a0 6 1).bind fun k1 =>
      (am_ldR σ k1 2 x2).bind fun k2 =>
      (am_gI σ k2 2 2).bind fun v3 =>
      bif decide (v3 = nI 0) then
        l_X6_blobCount_4 d a0 (x1 + (nI 0)) (x2 + nI 1) σ
      else
        l_X6_blobCount_4 d a0 (x1 + (nI 1)) (x2 + nI 1) σ := (am_L_it d 47 25 true 4 [(0, .ref a0), (1, .int x1), (2, .int x2)] [] σ).symm
set_option maxRecDepth 100000 in
set_option maxHeartbeats 4000000 in
theorem e_l_X6_resultCount_4 (d : Nat) (a0 : Nat) (x1 : Int32) (x2 : Int32) (σ : am_H) : l_X6_resultCount_4 d a0 x1 x2 σ =
    bif decide ((nI 10) ≤ x2) then
      some ((x1, 0, none), σ)
    else
      (am_gR σ a0 6 2).bind fun k1 =>
      (am_ldR σ k1 4 x2).bind fun k2 =>
      (am_gI σ k2 4 3).bind fun v3 =>
      bif decide (v3 = nI 0) then
        l_X6_resultCount_4 d a0 (x1 + (nI 0)) (x2 + nI 1) σ
      else
        l_X6_resultCount_4 d a0 (x1 + (nI 1)) (x2 + nI 1) σ := (am_L_it d 48 25 true 4 [(0, .ref a0), (1, .int x1), (2, .int x2)] [] σ).symm
set_option maxRecDepth 100000 in
set_option maxHeartbeats 4000000 in
theorem e_l_X6_blobOf_2 (d : Nat) (a0 : Nat) (j1 : Int64) (x3 : Int32) (σ : am_H) : l_X6_blobOf_2 d a0 j1 x3 σ =
    bif decide ((nI 10) ≤ x3) then
      some ((0, 0, none), σ)
    else
      (am_gR σ a0 6 1).bind fun k1 =>
      (am_ldR σ k1 2 x3).bind fun k2 =>
      (am_gI σ k2 2 2).bind fun v3 =>
      bif decide (v3 = nI 0) then
        l_X6_blobOf_2 d a0 j1 (x3 + nI 1) σ
      else
        (am_gR σ a0 6 1).bind fun k4 =>
        (am_ldR σ k4 2 x3).bind fun k5 =>
        (am_gJ σ k5 2 1).bind fun w6 =>
        bif decide (¬ (lg_cmp w6 j1) = nI 0) then
          l_X6_blobOf_2 d a0 j1 (x3 + nI 1) σ
        else
          (am_gR σ a0 6 1).bind fun k7 =>
          (am_ldR σ k7 2 x3).bind fun k8 =>
          some ((0, 0, some k8), σ) := (am_L_it d 51 30 true 2 [(0, .ref a0), (1, .long j1), (3, .int x3)] [] σ).symm
set_option maxRecDepth 100000 in
set_option maxHeartbeats 4000000 in
theorem e_l_X6_freeBlob_2 (d : Nat) (a0 : Nat) (x1 : Int32) (σ : am_H) : l_X6_freeBlob_2 d a0 x1 σ =
    bif decide ((nI 10) ≤ x1) then
      some ((0, 0, none), σ)
    else
      (am_gR σ a0 6 1).bind fun k1 =>
      (am_ldR σ k1 2 x1).bind fun k2 =>
      (am_gI σ k2 2 2).bind fun v3 =>
      bif decide (¬ v3 = nI 0) then
        l_X6_freeBlob_2 d a0 (x1 + nI 1) σ
      else
        (am_gR σ a0 6 1).bind fun k4 =>
        (am_ldR σ k4 2 x1).bind fun k5 =>
        some ((0, 0, some k5), σ) := (am_L_it d 52 22 true 2 [(0, .ref a0), (1, .int x1)] [] σ).symm
set_option maxRecDepth 100000 in
set_option maxHeartbeats 4000000 in
theorem e_l_X6_resultOf_2 (d : Nat) (a0 : Nat) (j1 : Int64) (x3 : Int32) (σ : am_H) : l_X6_resultOf_2 d a0 j1 x3 σ =
    bif decide ((nI 10) ≤ x3) then
      some ((0, 0, none), σ)
    else
      (am_gR σ a0 6 2).bind fun k1 =>
      (am_ldR σ k1 4 x3).bind fun k2 =>
      (am_gI σ k2 4 3).bind fun v3 =>
      bif decide (v3 = nI 0) then
        l_X6_resultOf_2 d a0 j1 (x3 + nI 1) σ
      else
        (am_gR σ a0 6 2).bind fun k4 =>
        (am_ldR σ k4 4 x3).bind fun k5 =>
        (am_gJ σ k5 4 1).bind fun w6 =>
        bif decide (¬ (lg_cmp w6 j1) = nI 0) then
          l_X6_resultOf_2 d a0 j1 (x3 + nI 1) σ
        else
          (am_gR σ a0 6 2).bind fun k7 =>
          (am_ldR σ k7 4 x3).bind fun k8 =>
          some ((0, 0, some k8), σ) := (am_L_it d 53 30 true 2 [(0, .ref a0), (1, .long j1), (3, .int x3)] [] σ).symm
set_option maxRecDepth 100000 in
set_option maxHeartbeats 4000000 in
theorem e_l_X6_freeResult_2 (d : Nat) (a0 : Nat) (x1 : Int32) (σ : am_H) : l_X6_freeResult_2 d a0 x1 σ =
    bif decide ((nI 10) ≤ x1) then
      some ((0, 0, none), σ)
    else
      (am_gR σ a0 6 2).bind fun k1 =>
      (am_ldR σ k1 4 x1).bind fun k2 =>
      (am_gI σ k2 4 3).bind fun v3 =>
      bif decide (¬ v3 = nI 0) then
        l_X6_freeResult_2 d a0 (x1 + nI 1) σ
      else
        (am_gR σ a0 6 2).bind fun k4 =>
        (am_ldR σ k4 4 x1).bind fun k5 =>
        some ((0, 0, some k5), σ) := (am_L_it d 54 22 true 2 [(0, .ref a0), (1, .int x1)] [] σ).symm
set_option maxRecDepth 100000 in
set_option maxHeartbeats 4000000 in
theorem e_l_X6_act_32 (d : Nat) (a0 : Nat) (a1 : Nat) (x2 : Int32) (σ : am_H) : l_X6_act_32 (d + 1) a0 a1 x2 σ =
    bif am_is σ a1 3 then
      (f_X3_kind d a1 σ).bind fun r1 =>
      bif decide (r1.1.1 = nI 0) then
        bif am_is r1.2 a1 3 then
          (f_X3_numberData d a1 r1.2).bind fun r2 =>
          bif am_is r2.2 a1 3 then
            (f_X3_place d a1 r2.2).bind fun r3 =>
            bif am_is r3.2 a0 6 then
              (f_X6_answerFind d a0 x2 r2.1.2.1 r3.1.1 r3.2).bind fun r4 =>
              some ((0, 0, none), r4.2)
            else none
          else none
        else none
      else
      bif decide (r1.1.1 = nI 1) then
        bif am_is r1.2 a1 3 then
          (f_X3_numberData d a1 r1.2).bind fun r5 =>
          bif am_is r5.2 a0 6 then
            (f_X6_startWrite d a0 x2 r5.1.2.1 r5.2).bind fun r6 =>
            bif am_is r6.2 a0 6 then
              (f_X6_sendVerdict d a0 x2 r6.1.1 r6.2).bind fun r7 =>
              some ((0, 0, none), r7.2)
            else none
          else none
        else none
      else
      bif decide (r1.1.1 = nI 2) then
        bif am_is r1.2 a1 3 then
          (f_X3_numberData d a1 r1.2).bind fun r8 =>
          bif am_is r8.2 a1 3 then
            (f_X3_place d a1 r8.2).bind fun r9 =>
            bif am_is r9.2 a0 6 then
              (f_X6_answerRead d a0 x2 r8.1.2.1 r9.1.1 r9.2).bind fun r10 =>
              bif am_is r10.2 a0 6 then
                (f_X6_sendVerdict d a0 x2 r10.1.1 r10.2).bind fun r11 =>
                some ((0, 0, none), r11.2)
              else none
            else none
          else none
        else none
      else
      bif decide (r1.1.1 = nI 3) then
        bif am_is r1.2 a1 3 then
          (f_X3_numberData d a1 r1.2).bind fun r12 =>
          bif am_is r12.2 a0 6 then
            (f_X6_answerAsk d a0 x2 r12.1.2.1 r12.2).bind fun r13 =>
            bif am_is r13.2 a0 6 then
              (f_X6_sendVerdict d a0 x2 r13.1.1 r13.2).bind fun r14 =>
              some ((0, 0, none), r14.2)
            else none
          else none
        else none
      else
      bif decide (r1.1.1 = nI 4) then
        (am_gR r1.2 a0 6 4).bind fun k15 =>
        (am_ldR r1.2 k15 4 x2).bind fun k16 =>
        bif am_is r1.2 a1 3 then
          (f_X3_numberData d a1 r1.2).bind fun r17 =>
          bif am_is r17.2 k16 4 then
            (f_X4_start d k16 r17.1.2.1 r17.2).bind fun r18 =>
            some ((0, 0, none), r18.2)
          else none
        else none
      else
      bif decide (r1.1.1 = nI 5) then
        (am_gR r1.2 a0 6 4).bind fun k19 =>
        (am_ldR r1.2 k19 4 x2).bind fun k20 =>
        bif am_is r1.2 a1 3 then
          (f_X3_place d a1 r1.2).bind fun r21 =>
          bif am_is r21.2 a1 3 then
            (f_X3_numberData d a1 r21.2).bind fun r22 =>
            bif am_is r22.2 k20 4 then
              (f_X4_addDigest d k20 r21.1.1 r22.1.2.1 r22.2).bind fun r23 =>
              some ((0, 0, none), r23.2)
            else none
          else none
        else none
      else
      bif decide (r1.1.1 = nI 6) then
        (am_gR r1.2 a0 6 4).bind fun k24 =>
        (am_ldR r1.2 k24 4 x2).bind fun k25 =>
        bif am_is r1.2 a1 3 then
          (f_X3_place d a1 r1.2).bind fun r26 =>
          bif am_is r26.2 a0 6 then
            (f_X6_finishTell d a0 k25 r26.1.1 r26.2).bind fun r27 =>
            bif am_is r27.2 a0 6 then
              (f_X6_sendVerdict d a0 x2 r27.1.1 r27.2).bind fun r28 =>
              some ((0, 0, none), r28.2)
            else none
          else none
        else none
      else
      bif decide (r1.1.1 = nI 7) then
        (am_gR r1.2 a0 6 3).bind fun k29 =>
        (am_ldR r1.2 k29 2 x2).bind fun k30 =>
        bif am_is r1.2 a0 6 then
          (f_X6_takePiece d a0 k30 a1 r1.2).bind fun r31 =>
          some ((0, 0, none), r31.2)
        else none
      else
      bif decide (r1.1.1 = nI 8) then
        (am_gR r1.2 a0 6 3).bind fun k32 =>
        (am_ldR r1.2 k32 2 x2).bind fun k33 =>
        bif am_is r1.2 a1 3 then
          (f_X3_place d a1 r1.2).bind fun r34 =>
          bif am_is r34.2 a0 6 then
            (f_X6_finishWrite d a0 k33 r34.1.1 r34.2).bind fun r35 =>
            bif am_is r35.2 a0 6 then
              (f_X6_sendVerdict d a0 x2 r35.1.1 r35.2).bind fun r36 =>
              some ((0, 0, none), r36.2)
            else none
          else none
        else none
      else
        some ((0, 0, none), r1.2)
    else none := (am_L_it (d + 1) 55 110 true 32 [(0, .ref a0), (1, .ref a1), (2, .int x2)] [] σ).symm
set_option maxRecDepth 100000 in
set_option maxHeartbeats 4000000 in
theorem e_l_X6_startWrite_53 (d : Nat) (a0 : Nat) (x1 : Int32) (a4 : Nat) (σ : am_H) : l_X6_startWrite_53 (d + 1) a0 x1 a4 σ =
    (am_gR σ a0 6 0).bind fun k1 =>
    (am_gR σ a4 2 0).bind fun k2 =>
    (am_gI σ k2 5 1).bind fun v3 =>
    bif am_is σ k1 7 then
      (f_X7_sendEmpty d k1 x1 (nI 12) v3 σ).bind fun r4 =>
      some (((-nI 1), 0, none), r4.2)
    else none := (am_L_it (d + 1) 59 39 true 53 [(0, .ref a0), (1, .int x1), (4, .ref a4)] [] σ).symm
set_option maxRecDepth 100000 in
set_option maxHeartbeats 4000000 in
theorem e_l_X6_answerAsk_35 (d : Nat) (a0 : Nat) (x1 : Int32) (a4 : Nat) (x5 : Int32) (σ : am_H) : l_X6_answerAsk_35 (d + 1) a0 x1 a4 x5 σ =
    (am_gI σ a4 4 2).bind fun v1 =>
    bif decide (v1 ≤ x5) then
      (am_gR σ a0 6 0).bind fun k2 =>
      (am_gI σ a4 4 2).bind fun v3 =>
      bif am_is σ k2 7 then
        (f_X7_sendEmpty d k2 x1 (nI 6) v3 σ).bind fun r4 =>
        some (((-nI 1), 0, none), r4.2)
      else none
    else
      (am_gR σ a0 6 0).bind fun k5 =>
      (am_gR σ a4 4 0).bind fun k6 =>
      (am_ldJ σ k6 x5).bind fun w7 =>
      bif am_is σ k5 7 then
        (f_X7_sendNumber d k5 x1 (nI 5) x5 w7 σ).bind fun r8 =>
        l_X6_answerAsk_35 (d + 1) a0 x1 a4 (x5 + nI 1) r8.2
      else none := (am_L_it (d + 1) 64 46 true 35 [(0, .ref a0), (1, .int x1), (4, .ref a4), (5, .int x5)] [] σ).symm
set_option maxRecDepth 100000 in
set_option maxHeartbeats 4000000 in
theorem e_l_X6_hasAllBlobs_2 (d : Nat) (a0 : Nat) (a1 : Nat) (x2 : Int32) (σ : am_H) : l_X6_hasAllBlobs_2 (d + 1) a0 a1 x2 σ =
    (am_gI σ a1 4 2).bind fun v1 =>
    bif decide (v1 ≤ x2) then
      bif am_zb (nI 1) then some (((nI 1), 0, none), σ) else none
    else
      (am_gR σ a1 4 0).bind fun k2 =>
      (am_ldJ σ k2 x2).bind fun w3 =>
      bif am_is σ a0 6 then
        (f_X6_blobOf d a0 w3 σ).bind fun r4 =>
        am_cs r4.1.2.2 (
          bif am_zb (nI 0) then some (((nI 0), 0, none), r4.2) else none
        ) fun k5 =>
        l_X6_hasAllBlobs_2 (d + 1) a0 a1 (x2 + nI 1) r4.2
      else none := (am_L_it (d + 1) 65 21 true 2 [(0, .ref a0), (1, .ref a1), (2, .int x2)] [] σ).symm
set_option maxRecDepth 100000 in
set_option maxHeartbeats 4000000 in
theorem e_l_X6_finishTell_52 (d : Nat) (a1 : Nat) (σ : am_H) : l_X6_finishTell_52 (d + 1) a1 σ =
    some (((nI 4), 0, none), σ) := (am_L_it (d + 1) 66 40 true 52 [(1, .ref a1)] [.null] σ).symm
set_option maxRecDepth 100000 in
set_option maxHeartbeats 4000000 in
theorem e_l_X6_finishTell_52_aa (d : Nat) (a1 : Nat) (p0 : Nat) (σ : am_H) : l_X6_finishTell_52_aa (d + 1) a1 p0 σ =
    bif am_is σ p0 4 then
      (f_X4_copyOf d p0 a1 σ).bind fun r1 =>
      some (((nI 0), 0, none), r1.2)
    else none := (am_L_it (d + 1) 66 40 true 52 [(1, .ref a1)] [.ref p0] σ).symm
set_option maxRecDepth 100000 in
set_option maxHeartbeats 4000000 in
theorem e_l_X7_sendNumber_3 (d : Nat) (a0 : Nat) (x1 : Int32) (x2 : Int32) (x3 : Int32) (j4 : Int64) (x6 : Int32) (σ : am_H) : l_X7_sendNumber_3 (d + 1) a0 x1 x2 x3 j4 x6 σ =
    bif decide ((nI 8) ≤ x6) then
      (am_gR σ a0 7 3).bind fun k1 =>
      bif am_is σ a0 7 then
        (f_X7_send d a0 x1 x2 x3 k1 (nI 0) (nI 8) σ).bind fun r2 =>
        some ((0, 0, none), r2.2)
      else none
    else
      (am_gR σ a0 7 3).bind fun k3 =>
      (am_stI σ k3 x6 ((Int64.toInt32 ((Int64.toUInt64 j4 >>> ((Int32.toInt64 ((nI 56) - ((nI 8) * x6))).toUInt64 &&& Int64.toUInt64 63)).toInt64)) &&& (nI 255))).bind fun s4 =>
      l_X7_sendNumber_3 (d + 1) a0 x1 x2 x3 j4 (x6 + nI 1) s4 := (am_L_it (d + 1) 71 33 true 3 [(0, .ref a0), (1, .int x1), (2, .int x2), (3, .int x3), (4, .long j4), (6, .int x6)] [] σ).symm
set_option maxRecDepth 100000 in
set_option maxHeartbeats 4000000 in
theorem e_l_X7_sendPieces_3 (d : Nat) (a0 : Nat) (x1 : Int32) (a2 : Nat) (x4 : Int32) (σ : am_H) : l_X7_sendPieces_3 (d + 1) a0 x1 a2 x4 σ =
    (am_gI σ a2 5 1).bind fun v1 =>
    bif decide (v1 ≤ x4) then
      (am_gI σ a2 5 1).bind fun v2 =>
      (am_gR σ a2 5 0).bind fun k3 =>
      bif am_is σ a0 7 then
        (f_X7_send d a0 x1 (nI 8) v2 k3 (nI 0) (nI 0) σ).bind fun r4 =>
        some ((0, 0, none), r4.2)
      else none
    else
      (am_gR σ a2 5 0).bind fun k5 =>
      (am_gI σ a0 7 0).bind fun v6 =>
      (am_gI σ a2 5 1).bind fun v7 =>
      bif am_is σ a0 7 then
        (f_X7_send d a0 x1 (nI 7) x4 k5 x4 (if (v7 - x4) < v6 then (v7 - x4) else v6) σ).bind fun r8 =>
        (am_gI r8.2 a0 7 0).bind fun v9 =>
        l_X7_sendPieces_3 (d + 1) a0 x1 a2 (x4 + v9) r8.2
      else none := (am_L_it (d + 1) 72 40 true 3 [(0, .ref a0), (1, .int x1), (2, .ref a2), (4, .int x4)] [] σ).symm
set_option maxRecDepth 100000 in
set_option maxHeartbeats 4000000 in
theorem e_l_X7_makeRoom_66 (d : Nat) (a0 : Nat) (σ : am_H) : l_X7_makeRoom_66 d a0 σ =
    (am_gR σ a0 7 1).bind fun k1 =>
    (am_gI σ a0 7 4).bind fun v2 =>
    (am_gR σ a0 7 1).bind fun k3 =>
    (am_gI σ a0 7 5).bind fun v4 =>
    (am_cpy σ k1 v2 k3 (nI 0) v4).bind fun s5 =>
    (am_gR s5 a0 7 2).bind fun k6 =>
    (am_gI s5 a0 7 6).bind fun v7 =>
    (am_gR s5 a0 7 2).bind fun k8 =>
    (am_gI s5 a0 7 7).bind fun v9 =>
    (am_cpy s5 k6 v7 k8 (nI 0) v9).bind fun s10 =>
    (am_pI s10 a0 7 4 (nI 0)).bind fun s11 =>
    (am_pI s11 a0 7 6 (nI 0)).bind fun s12 =>
    bif am_zb (nI 1) then some (((nI 1), 0, none), s12) else none := (am_L_it d 74 64 true 66 [(0, .ref a0)] [] σ).symm
set_option maxRecDepth 100000 in
set_option maxHeartbeats 4000000 in
theorem e_l_X7_startOf_15 (d : Nat) (a0 : Nat) (x1 : Int32) (x2 : Int32) (x3 : Int32) (σ : am_H) : l_X7_startOf_15 d a0 x1 x2 x3 σ =
    bif decide (x1 ≤ x3) then
      some ((x2, 0, none), σ)
    else
      (am_gR σ a0 7 2).bind fun k1 =>
      (am_ldI σ k1 1 x3).bind fun v2 =>
      l_X7_startOf_15 d a0 x1 (x2 + v2) (x3 + nI 1) σ := (am_L_it d 79 25 true 15 [(0, .ref a0), (1, .int x1), (2, .int x2), (3, .int x3)] [] σ).symm
set_option maxRecDepth 100000 in
set_option maxHeartbeats 4000000 in
theorem e_l_X6_init_74 (d : Nat) (a0 : Nat) (x2 : Int32) (σ : am_H) : l_X6_init_74 (d + 1) a0 x2 σ =
    bif decide ((nI 10) ≤ x2) then
      l_X6_init_101 (d + 1) a0 (nI 0) σ
    else
      (am_gR σ a0 6 2).bind fun k1 =>
      (am_new σ 4 4).bind fun s2 =>
      (f_X4_init d (am_n σ) s2).bind fun r3 =>
      (am_stR r3.2 k1 4 x2 (am_n σ)).bind fun s4 =>
      l_X6_init_74 (d + 1) a0 (x2 + nI 1) s4 := (am_L_it (d + 1) 46 73 true 74 [(0, .ref a0), (2, .int x2)] [] σ).symm
set_option maxRecDepth 100000 in
set_option maxHeartbeats 4000000 in
theorem e_l_X6_init_101 (d : Nat) (a0 : Nat) (x2 : Int32) (σ : am_H) : l_X6_init_101 (d + 1) a0 x2 σ =
    bif decide ((nI 30) ≤ x2) then
      some ((0, 0, none), σ)
    else
      (am_gR σ a0 6 3).bind fun k1 =>
      (am_new σ 2 3).bind fun s2 =>
      (f_X2_init d (am_n σ) s2).bind fun r3 =>
      (am_stR r3.2 k1 2 x2 (am_n σ)).bind fun s4 =>
      (am_gR s4 a0 6 4).bind fun k5 =>
      (am_new s4 4 4).bind fun s6 =>
      (f_X4_init d (am_n s4) s6).bind fun r7 =>
      (am_stR r7.2 k5 4 x2 (am_n s4)).bind fun s8 =>
      l_X6_init_101 (d + 1) a0 (x2 + nI 1) s8 := (am_L_it (d + 1) 46 73 true 101 [(0, .ref a0), (2, .int x2)] [] σ).symm
