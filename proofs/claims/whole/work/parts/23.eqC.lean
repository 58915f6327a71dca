/-! what each stretch does (by program) -/
set_option maxRecDepth 100000 in
set_option maxHeartbeats 4000000 in
theorem e_X8_init (d : Nat) (a0 : Nat) (x1 : Int32) (σ : am_H) : f_X8_init (d + 1) a0 x1 σ =
    (am_new σ 7 10).bind fun s1 =>
    (f_X7_init d (am_n σ) (if (nI 8) < (if x1 < (nI 40) then x1 else (nI 40)) then (if x1 < (nI 40) then x1 else (nI 40)) else (nI 8)) s1).bind fun r2 =>
    (am_pR r2.2 a0 8 0 (am_n σ)).bind fun s3 =>
    (am_new s3 7 10).bind fun s4 =>
    (f_X7_init d (am_n s3) (if (nI 8) < (if x1 < (nI 40) then x1 else (nI 40)) then (if x1 < (nI 40) then x1 else (nI 40)) else (nI 8)) s4).bind fun r5 =>
    (am_pR r5.2 a0 8 1 (am_n s3)).bind fun s6 =>
    (am_new s6 3 3).bind fun s7 =>
    (f_X3_init d (am_n s6) (if (nI 8) < (if x1 < (nI 40) then x1 else (nI 40)) then (if x1 < (nI 40) then x1 else (nI 40)) else (nI 8)) s7).bind fun r8 =>
    (am_pR r8.2 a0 8 2 (am_n s6)).bind fun s9 =>
    (am_new s9 3 3).bind fun s10 =>
    (f_X3_init d (am_n s9) (if (nI 8) < (if x1 < (nI 40) then x1 else (nI 40)) then (if x1 < (nI 40) then x1 else (nI 40)) else (nI 8)) s10).bind fun r11 =>
    (am_pR r11.2 a0 8 3 (am_n s9)).bind fun s12 =>
    (am_new s12 1 4).bind fun s13 =>
    (am_gR s13 a0 8 0).bind fun k14 =>
    (f_X1_init d (am_n s12) k14 s13).bind fun r15 =>
    (am_pR r15.2 a0 8 4 (am_n s12)).bind fun s16 =>
    (am_new s16 6 6).bind fun s17 =>
    (am_gR s17 a0 8 1).bind fun k18 =>
    (f_X6_init d (am_n s16) k18 s17).bind fun r19 =>
    (am_pR r19.2 a0 8 5 (am_n s16)).bind fun s20 =>
    some ((0, 0, none), s20) := (am_L_it (d + 1) 84 49 true 0 [(0, .ref a0), (1, .int x1)] [] σ).symm
set_option maxRecDepth 100000 in
set_option maxHeartbeats 4000000 in
theorem e_X8_call (d : Nat) (a0 : Nat) (x1 : Int32) (j2 : Int64) (σ : am_H) : f_X8_call (d + 1) a0 x1 j2 σ =
    (am_gR σ a0 8 4).bind fun k1 =>
    bif am_is σ k1 1 then
      (f_X1_makeCall d k1 x1 j2 σ).bind fun r2 =>
      some ((r2.1.1, 0, none), r2.2)
    else none := (am_L_it (d + 1) 85 8 true 0 [(0, .ref a0), (1, .int x1), (2, .long j2)] [] σ).symm
set_option maxRecDepth 100000 in
set_option maxHeartbeats 4000000 in
theorem e_X8_data (d : Nat) (a0 : Nat) (x1 : Int32) (x2 : Int32) (σ : am_H) : f_X8_data (d + 1) a0 x1 x2 σ =
    (am_gR σ a0 8 4).bind fun k1 =>
    bif am_is σ k1 1 then
      (f_X1_writeAt d k1 x1 σ).bind fun r2 =>
      am_cs r2.1.2.2 (
        some (((-nI 1), 0, none), r2.2)
      ) fun k3 =>
      (am_gI r2.2 k3 0 3).bind fun v4 =>
      bif decide (¬ v4 = nI 0) then
        some (((-nI 1), 0, none), r2.2)
      else
        (am_gR r2.2 k3 0 9).bind fun k5 =>
        bif am_is r2.2 k5 5 then
          (f_X5_append d k5 (x2 &&& (nI 255)) r2.2).bind fun r6 =>
          bif decide (¬ r6.1.1 = nI 0) then
            (am_gR r6.2 k3 0 9).bind fun k7 =>
            (am_gI r6.2 k7 5 1).bind fun v8 =>
            some ((v8, 0, none), r6.2)
          else
            some (((-nI 1), 0, none), r6.2)
        else none
    else none := (am_L_it (d + 1) 86 25 true 0 [(0, .ref a0), (1, .int x1), (2, .int x2)] [] σ).symm
set_option maxRecDepth 100000 in
set_option maxHeartbeats 4000000 in
theorem e_X8_name (d : Nat) (a0 : Nat) (x1 : Int32) (x2 : Int32) (j3 : Int64) (σ : am_H) : f_X8_name (d + 1) a0 x1 x2 j3 σ =
    (am_gR σ a0 8 4).bind fun k1 =>
    bif am_is σ k1 1 then
      (f_X1_callAt d k1 x1 σ).bind fun r2 =>
      am_cs r2.1.2.2 (
        (am_gR r2.2 a0 8 4).bind fun k4 =>
        bif am_is r2.2 k4 1 then
          (f_X1_writeAt d k4 x2 r2.2).bind fun r5 =>
          am_cs r5.1.2.2 (
            some (((-nI 1), 0, none), r5.2)
          ) fun k6 =>
          some (((-nI 1), 0, none), r5.2)
        else none
      ) fun k3 =>
      (am_gR r2.2 a0 8 4).bind fun k7 =>
      bif am_is r2.2 k7 1 then
        (f_X1_writeAt d k7 x2 r2.2).bind fun r8 =>
        am_cs r8.1.2.2 (
          some (((-nI 1), 0, none), r8.2)
        ) fun k9 =>
        (am_gI r8.2 k3 0 3).bind fun v10 =>
        bif decide (v10 = nI 0) then
          (am_gI r8.2 k3 0 1).bind fun v11 =>
          bif decide (v11 = (nI 1)) then
            bif decide (x1 = x2) then
              (am_pJ r8.2 k3 0 14 j3).bind fun s12 =>
              some (((nI 1), 0, none), s12)
            else
              some (((-nI 1), 0, none), r8.2)
          else
            (am_gR r8.2 k9 0 9).bind fun k13 =>
            bif am_is r8.2 k13 5 then
              (f_X5_digest d k13 r8.2).bind fun r14 =>
              bif am_is r14.2 k3 0 then
                (f_X0_mostNamed d k3 r14.2).bind fun r15 =>
                bif am_is r15.2 k3 0 then
                  (f_X0_addDigest d k3 (r14.1.2.1 ^^^ j3) r15.1.1 r15.2).bind fun r16 =>
                  some ((r16.1.1, 0, none), r16.2)
                else none
              else none
            else none
        else
          some (((-nI 1), 0, none), r8.2)
      else none
    else none := (am_L_it (d + 1) 87 45 true 0 [(0, .ref a0), (1, .int x1), (2, .int x2), (3, .long j3)] [] σ).symm
set_option maxRecDepth 100000 in
set_option maxHeartbeats 4000000 in
theorem e_X8_begin (d : Nat) (a0 : Nat) (x1 : Int32) (x2 : Int32) (σ : am_H) : f_X8_begin (d + 1) a0 x1 x2 σ =
    (am_gR σ a0 8 4).bind fun k1 =>
    bif am_is σ k1 1 then
      (f_X1_callAt d k1 x1 σ).bind fun r2 =>
      am_cs r2.1.2.2 (
        bif am_zb (nI 0) then some (((nI 0), 0, none), r2.2) else none
      ) fun k3 =>
      (am_gI r2.2 k3 0 3).bind fun v4 =>
      bif decide (¬ v4 = nI 0) then
        bif am_zb (nI 0) then some (((nI 0), 0, none), r2.2) else none
      else
        bif decide (x2 < (nI 1)) then
          bif am_zb (nI 0) then some (((nI 0), 0, none), r2.2) else none
        else
          bif decide (x2 ≤ (nI 100000)) then
            (am_pZ r2.2 k3 0 3 (nI 1)).bind fun s5 =>
            (am_gR s5 a0 8 4).bind fun k6 =>
            (am_gI s5 k6 1 3).bind fun v7 =>
            (am_pI s5 k3 0 5 (v7 + x2)).bind fun s8 =>
            (am_gR s8 a0 8 4).bind fun k9 =>
            bif am_is s8 k9 1 then
              (f_X1_open d k9 k3 s8).bind fun r10 =>
              bif am_zb (nI 1) then some (((nI 1), 0, none), r10.2) else none
            else none
          else
            bif am_zb (nI 0) then some (((nI 0), 0, none), r2.2) else none
    else none := (am_L_it (d + 1) 88 36 true 0 [(0, .ref a0), (1, .int x1), (2, .int x2)] [] σ).symm
set_option maxRecDepth 100000 in
set_option maxHeartbeats 4000000 in
theorem e_X8_carry (d : Nat) (a0 : Nat) (x1 : Int32) (x2 : Int32) (σ : am_H) : f_X8_carry (d + 1) a0 x1 x2 σ =
    (f_X8_isEnd d x1 σ).bind fun r1 =>
    bif decide (r1.1.1 = nI 0) then
      some (((-nI 1), 0, none), r1.2)
    else
      bif decide (nI 0 ≤ x2) then
        bif am_is r1.2 a0 8 then
          (f_X8_carryFrom d a0 x1 x2 r1.2).bind fun r2 =>
          some ((r2.1.1, 0, none), r2.2)
        else none
      else
        some (((-nI 1), 0, none), r1.2) := (am_L_it (d + 1) 89 14 true 0 [(0, .ref a0), (1, .int x1), (2, .int x2)] [] σ).symm
set_option maxRecDepth 100000 in
set_option maxHeartbeats 4000000 in
theorem e_X8_cut (d : Nat) (a0 : Nat) (x1 : Int32) (x2 : Int32) (σ : am_H) : f_X8_cut (d + 1) a0 x1 x2 σ =
    bif decide (x1 < nI 0) then
      some (((-nI 1), 0, none), σ)
    else
      bif decide (nI 0 ≤ x2) then
        bif am_is σ a0 8 then
          (f_X8_carryFrom d a0 (nI 0) x1 σ).bind fun r1 =>
          bif am_is r1.2 a0 8 then
            (f_X8_carryFrom d a0 (nI 1) x2 r1.2).bind fun r2 =>
            (am_gR r2.2 a0 8 0).bind fun k3 =>
            (am_gI r2.2 k3 7 5).bind fun v4 =>
            (am_gR r2.2 a0 8 1).bind fun k5 =>
            (am_gI r2.2 k5 7 5).bind fun v6 =>
            bif am_is r2.2 a0 8 then
              (f_X8_clearLine d a0 r2.2).bind fun r7 =>
              some (((v4 + v6), 0, none), r7.2)
            else none
          else none
        else none
      else
        some (((-nI 1), 0, none), σ) := (am_L_it (d + 1) 90 30 true 0 [(0, .ref a0), (1, .int x1), (2, .int x2)] [] σ).symm
set_option maxRecDepth 100000 in
set_option maxHeartbeats 4000000 in
theorem e_X8_lose (d : Nat) (a0 : Nat) (x1 : Int32) (x2 : Int32) (σ : am_H) : f_X8_lose (d + 1) a0 x1 x2 σ =
    (f_X8_isEnd d x1 σ).bind fun r1 =>
    bif decide (r1.1.1 = nI 0) then
      bif am_zb (nI 0) then some (((nI 0), 0, none), r1.2) else none
    else
      bif am_is r1.2 a0 8 then
        (f_X8_wayFrom d a0 x1 r1.2).bind fun r2 =>
        am_cs r2.1.2.2 (
          none
        ) fun k3 =>
        bif am_is r2.2 k3 7 then
          (f_X7_dropFrame d k3 x2 r2.2).bind fun r4 =>
          bif decide (r4.1.1 = nI 0) then
            bif am_zb (nI 0) then some (((nI 0), 0, none), r4.2) else none
          else
            bif am_zb (nI 1) then some (((nI 1), 0, none), r4.2) else none
        else none
      else none := (am_L_it (d + 1) 91 15 true 0 [(0, .ref a0), (1, .int x1), (2, .int x2)] [] σ).symm
set_option maxRecDepth 100000 in
set_option maxHeartbeats 4000000 in
theorem e_X8_twice (d : Nat) (a0 : Nat) (x1 : Int32) (x2 : Int32) (σ : am_H) : f_X8_twice (d + 1) a0 x1 x2 σ =
    (f_X8_isEnd d x1 σ).bind fun r1 =>
    bif decide (r1.1.1 = nI 0) then
      bif am_zb (nI 0) then some (((nI 0), 0, none), r1.2) else none
    else
      bif am_is r1.2 a0 8 then
        (f_X8_wayFrom d a0 x1 r1.2).bind fun r2 =>
        am_cs r2.1.2.2 (
          none
        ) fun k3 =>
        bif am_is r2.2 k3 7 then
          (f_X7_repeatFrame d k3 x2 r2.2).bind fun r4 =>
          bif decide (r4.1.1 = nI 0) then
            bif am_zb (nI 0) then some (((nI 0), 0, none), r4.2) else none
          else
            bif am_zb (nI 1) then some (((nI 1), 0, none), r4.2) else none
        else none
      else none := (am_L_it (d + 1) 92 15 true 0 [(0, .ref a0), (1, .int x1), (2, .int x2)] [] σ).symm
set_option maxRecDepth 100000 in
set_option maxHeartbeats 4000000 in
theorem e_X8_lie (d : Nat) (a0 : Nat) (x1 : Int32) (x2 : Int32) (x3 : Int32) (σ : am_H) : f_X8_lie (d + 1) a0 x1 x2 x3 σ =
    (f_X8_isEnd d x1 σ).bind fun r1 =>
    bif decide (r1.1.1 = nI 0) then
      bif am_zb (nI 0) then some (((nI 0), 0, none), r1.2) else none
    else
      bif am_is r1.2 a0 8 then
        (f_X8_wayFrom d a0 x1 r1.2).bind fun r2 =>
        am_cs r2.1.2.2 (
          none
        ) fun k3 =>
        bif am_is r2.2 k3 7 then
          (f_X7_changeByte d k3 x2 (x3 &&& (nI 255)) r2.2).bind fun r4 =>
          bif decide (r4.1.1 = nI 0) then
            bif am_zb (nI 0) then some (((nI 0), 0, none), r4.2) else none
          else
            bif am_zb (nI 1) then some (((nI 1), 0, none), r4.2) else none
        else none
      else none := (am_L_it (d + 1) 93 18 true 0 [(0, .ref a0), (1, .int x1), (2, .int x2), (3, .int x3)] [] σ).symm
set_option maxRecDepth 100000 in
set_option maxHeartbeats 4000000 in
theorem e_X8_underway (d : Nat) (a0 : Nat) (x1 : Int32) (x2 : Int32) (σ : am_H) : f_X8_underway (d + 1) a0 x1 x2 σ =
    (f_X8_isEnd d x1 σ).bind fun r1 =>
    bif decide (r1.1.1 = nI 0) then
      some (((-nI 1), 0, none), r1.2)
    else
      bif am_is r1.2 a0 8 then
        (f_X8_wayFrom d a0 x1 r1.2).bind fun r2 =>
        am_cs r2.1.2.2 (
          none
        ) fun k3 =>
        bif am_is r2.2 k3 7 then
          (f_X7_byteAt d k3 x2 r2.2).bind fun r4 =>
          some ((r4.1.1, 0, none), r4.2)
        else none
      else none := (am_L_it (d + 1) 94 13 true 0 [(0, .ref a0), (1, .int x1), (2, .int x2)] [] σ).symm
set_option maxRecDepth 100000 in
set_option maxHeartbeats 4000000 in
theorem e_X8_resume (d : Nat) (a0 : Nat) (x1 : Int32) (σ : am_H) : f_X8_resume (d + 1) a0 x1 σ =
    (am_gR σ a0 8 4).bind fun k1 =>
    bif am_is σ k1 1 then
      (f_X1_callAt d k1 x1 σ).bind fun r2 =>
      am_cs r2.1.2.2 (
        some (((-nI 1), 0, none), r2.2)
      ) fun k3 =>
      bif am_is r2.2 k3 0 then
        (f_X0_goesOn d k3 r2.2).bind fun r4 =>
        bif decide (¬ r4.1.1 = nI 0) then
          (am_pZ r4.2 k3 0 6 (nI 0)).bind fun s5 =>
          (am_gR s5 a0 8 4).bind fun k6 =>
          bif am_is s5 k6 1 then
            (f_X1_open d k6 k3 s5).bind fun r7 =>
            (am_gI r7.2 k3 0 1).bind fun v8 =>
            bif decide (¬ v8 = (nI 3)) then
              bif am_is r7.2 k3 0 then
                (f_X0_comeSoFar d k3 r7.2).bind fun r9 =>
                some ((r9.1.1, 0, none), r9.2)
              else none
            else
              some (((nI 0), 0, none), r7.2)
          else none
        else
          some (((-nI 1), 0, none), r4.2)
      else none
    else none := (am_L_it (d + 1) 95 30 true 0 [(0, .ref a0), (1, .int x1)] [] σ).symm
set_option maxRecDepth 100000 in
set_option maxHeartbeats 4000000 in
theorem e_X8_tick (d : Nat) (a0 : Nat) (x1 : Int32) (σ : am_H) : f_X8_tick (d + 1) a0 x1 σ =
    bif decide (x1 < nI 0) then
      some (((-nI 1), 0, none), σ)
    else
      bif decide ((nI 1000) < x1) then
        some (((-nI 1), 0, none), σ)
      else
        (am_gR σ a0 8 4).bind fun k1 =>
        (am_gI σ k1 1 3).bind fun v2 =>
        bif decide ((v2 + x1) ≤ (nI 1000000)) then
          (am_gR σ a0 8 4).bind fun k3 =>
          (am_gI σ k3 1 3).bind fun v4 =>
          l_X8_tick_42 (d + 1) a0 x1 (v4 + x1) (nI 0) (nI 0) σ
        else
          some (((-nI 1), 0, none), σ) := (am_L_it (d + 1) 96 51 true 0 [(0, .ref a0), (1, .int x1)] [] σ).symm
set_option maxRecDepth 100000 in
set_option maxHeartbeats 4000000 in
theorem e_X8_end (d : Nat) (a0 : Nat) (x1 : Int32) (σ : am_H) : f_X8_end (d + 1) a0 x1 σ =
    (am_gR σ a0 8 4).bind fun k1 =>
    bif am_is σ k1 1 then
      (f_X1_callAt d k1 x1 σ).bind fun r2 =>
      am_cs r2.1.2.2 (
        some (((-nI 9), 0, none), r2.2)
      ) fun k3 =>
      (am_gI r2.2 k3 0 4).bind fun v4 =>
      some ((v4, 0, none), r2.2)
    else none := (am_L_it (d + 1) 97 14 true 0 [(0, .ref a0), (1, .int x1)] [] σ).symm
set_option maxRecDepth 100000 in
set_option maxHeartbeats 4000000 in
theorem e_X8_got (d : Nat) (a0 : Nat) (x1 : Int32) (x2 : Int32) (σ : am_H) : f_X8_got (d + 1) a0 x1 x2 σ =
    (am_gR σ a0 8 4).bind fun k1 =>
    bif am_is σ k1 1 then
      (f_X1_callAt d k1 x1 σ).bind fun r2 =>
      am_cs r2.1.2.2 (
        l_X8_got_36 (d + 1)  r2.2
      ) fun k3 =>
      (am_gI r2.2 k3 0 1).bind fun v4 =>
      bif decide (¬ v4 = (nI 2)) then
        l_X8_got_36 (d + 1)  r2.2
      else
        bif decide (x2 < nI 0) then
          l_X8_got_36 (d + 1)  r2.2
        else
          (am_gR r2.2 k3 0 9).bind fun k5 =>
          (am_gI r2.2 k5 5 1).bind fun v6 =>
          bif decide (x2 < v6) then
            (am_gR r2.2 k3 0 9).bind fun k7 =>
            (am_gR r2.2 k7 5 0).bind fun k8 =>
            (am_ldI r2.2 k8 1 x2).bind fun v9 =>
            some ((v9, 0, none), r2.2)
          else
            l_X8_got_36 (d + 1)  r2.2
    else none := (am_L_it (d + 1) 98 31 true 0 [(0, .ref a0), (1, .int x1), (2, .int x2)] [] σ).symm
set_option maxRecDepth 100000 in
set_option maxHeartbeats 4000000 in
theorem e_X8_named (d : Nat) (a0 : Nat) (x1 : Int32) (x2 : Int32) (σ : am_H) : f_X8_named (d + 1) a0 x1 x2 σ =
    (am_gR σ a0 8 4).bind fun k1 =>
    bif am_is σ k1 1 then
      (f_X1_callAt d k1 x1 σ).bind fun r2 =>
      am_cs r2.1.2.2 (
        some ((0, (lN 0), none), r2.2)
      ) fun k3 =>
      bif am_is r2.2 k3 0 then
        (f_X0_digestAt d k3 x2 r2.2).bind fun r4 =>
        some ((0, r4.1.2.1, none), r4.2)
      else none
    else none := (am_L_it (d + 1) 99 15 true 0 [(0, .ref a0), (1, .int x1), (2, .int x2)] [] σ).symm
set_option maxRecDepth 100000 in
set_option maxHeartbeats 4000000 in
theorem e_X8_missing (d : Nat) (a0 : Nat) (x1 : Int32) (x2 : Int32) (σ : am_H) : f_X8_missing (d + 1) a0 x1 x2 σ =
    (am_gR σ a0 8 4).bind fun k1 =>
    bif am_is σ k1 1 then
      (f_X1_callAt d k1 x1 σ).bind fun r2 =>
      am_cs r2.1.2.2 (
        some (((-nI 1), 0, none), r2.2)
      ) fun k3 =>
      bif am_is r2.2 k3 0 then
        (f_X0_missingPlace d k3 x2 r2.2).bind fun r4 =>
        some ((r4.1.1, 0, none), r4.2)
      else none
    else none := (am_L_it (d + 1) 100 15 true 0 [(0, .ref a0), (1, .int x1), (2, .int x2)] [] σ).symm
set_option maxRecDepth 100000 in
set_option maxHeartbeats 4000000 in
theorem e_X8_about (d : Nat) (a0 : Nat) (x1 : Int32) (x2 : Int32) (σ : am_H) : f_X8_about (d + 1) a0 x1 x2 σ =
    (am_gR σ a0 8 4).bind fun k1 =>
    bif am_is σ k1 1 then
      (f_X1_callAt d k1 x1 σ).bind fun r2 =>
      am_cs r2.1.2.2 (
        some (((-nI 1), 0, none), r2.2)
      ) fun k3 =>
      bif decide (x2 = nI 0) then
        (am_gI r2.2 k3 0 6).bind fun v4 =>
        bif decide (v4 = nI 0) then
          some (((nI 0), 0, none), r2.2)
        else
          (am_gI r2.2 k3 0 7).bind fun v5 =>
          (am_gR r2.2 a0 8 4).bind fun k6 =>
          (am_gI r2.2 k6 1 3).bind fun v7 =>
          some (((v5 - v7), 0, none), r2.2)
      else
      bif decide (x2 = nI 1) then
        (am_gI r2.2 k3 0 8).bind fun v8 =>
        some ((v8, 0, none), r2.2)
      else
      bif decide (x2 = nI 2) then
        bif am_is r2.2 k3 0 then
          (f_X0_comeSoFar d k3 r2.2).bind fun r9 =>
          some ((r9.1.1, 0, none), r9.2)
        else none
      else
      bif decide (x2 = nI 3) then
        (am_gR r2.2 a0 8 5).bind fun k10 =>
        bif am_is r2.2 k10 6 then
          (f_X6_partialSize d k10 x1 r2.2).bind fun r11 =>
          some ((r11.1.1, 0, none), r11.2)
        else none
      else
        some (((-nI 1), 0, none), r2.2)
    else none := (am_L_it (d + 1) 101 38 true 0 [(0, .ref a0), (1, .int x1), (2, .int x2)] [] σ).symm
set_option maxRecDepth 100000 in
set_option maxHeartbeats 4000000 in
theorem e_X8_busy (d : Nat) (a0 : Nat) (x1 : Int32) (σ : am_H) : f_X8_busy d a0 x1 σ =
    bif decide (x1 < nI 0) then
      bif am_zb (nI 0) then some (((nI 0), 0, none), σ) else none
    else
      bif decide (x1 ≤ (nI 100)) then
        (am_gR σ a0 8 5).bind fun k1 =>
        (am_pI σ k1 6 5 x1).bind fun s2 =>
        bif am_zb (nI 1) then some (((nI 1), 0, none), s2) else none
      else
        bif am_zb (nI 0) then some (((nI 0), 0, none), σ) else none := (am_L_it d 102 15 true 0 [(0, .ref a0), (1, .int x1)] [] σ).symm
set_option maxRecDepth 100000 in
set_option maxHeartbeats 4000000 in
theorem e_X8_forget (d : Nat) (a0 : Nat) (x1 : Int32) (σ : am_H) : f_X8_forget (d + 1) a0 x1 σ =
    (am_gR σ a0 8 4).bind fun k1 =>
    bif am_is σ k1 1 then
      (f_X1_writeAt d k1 x1 σ).bind fun r2 =>
      am_cs r2.1.2.2 (
        bif am_zb (nI 0) then some (((nI 0), 0, none), r2.2) else none
      ) fun k3 =>
      (am_gR r2.2 a0 8 5).bind fun k4 =>
      (am_gR r2.2 k3 0 9).bind fun k5 =>
      bif am_is r2.2 k5 5 then
        (f_X5_digest d k5 r2.2).bind fun r6 =>
        bif am_is r6.2 k4 6 then
          (f_X6_dropBlob d k4 r6.1.2.1 r6.2).bind fun r7 =>
          bif decide (r7.1.1 = nI 0) then
            bif am_zb (nI 0) then some (((nI 0), 0, none), r7.2) else none
          else
            bif am_zb (nI 1) then some (((nI 1), 0, none), r7.2) else none
        else none
      else none
    else none := (am_L_it (d + 1) 103 20 true 0 [(0, .ref a0), (1, .int x1)] [] σ).symm
set_option maxRecDepth 100000 in
set_option maxHeartbeats 4000000 in
theorem e_X8_count (d : Nat) (a0 : Nat) (x1 : Int32) (σ : am_H) : f_X8_count (d + 1) a0 x1 σ =
    bif decide (x1 = nI 0) then
      (am_gR σ a0 8 0).bind fun k1 =>
      (am_gI σ k1 7 5).bind fun v2 =>
      some ((v2, 0, none), σ)
    else
    bif decide (x1 = nI 1) then
      (am_gR σ a0 8 1).bind fun k3 =>
      (am_gI σ k3 7 5).bind fun v4 =>
      some ((v4, 0, none), σ)
    else
    bif decide (x1 = nI 2) then
      (am_gR σ a0 8 0).bind fun k5 =>
      bif am_is σ k5 7 then
        (f_X7_untouched d k5 σ).bind fun r6 =>
        some ((r6.1.1, 0, none), r6.2)
      else none
    else
    bif decide (x1 = nI 3) then
      (am_gR σ a0 8 1).bind fun k7 =>
      bif am_is σ k7 7 then
        (f_X7_untouched d k7 σ).bind fun r8 =>
        some ((r8.1.1, 0, none), r8.2)
      else none
    else
    bif decide (x1 = nI 4) then
      (am_gR σ a0 8 5).bind fun k9 =>
      bif am_is σ k9 6 then
        (f_X6_blobCount d k9 σ).bind fun r10 =>
        some ((r10.1.1, 0, none), r10.2)
      else none
    else
    bif decide (x1 = nI 5) then
      (am_gR σ a0 8 5).bind fun k11 =>
      bif am_is σ k11 6 then
        (f_X6_resultCount d k11 σ).bind fun r12 =>
        some ((r12.1.1, 0, none), r12.2)
      else none
    else
    bif decide (x1 = nI 6) then
      (am_gI σ a0 8 6).bind fun v13 =>
      some ((v13, 0, none), σ)
    else
    bif decide (x1 = nI 7) then
      (am_gR σ a0 8 0).bind fun k14 =>
      (am_gI σ k14 7 9).bind fun v15 =>
      (am_gR σ a0 8 1).bind fun k16 =>
      (am_gI σ k16 7 9).bind fun v17 =>
      some (((v15 + v17), 0, none), σ)
    else
    bif decide (x1 = nI 8) then
      (am_gR σ a0 8 5).bind fun k18 =>
      (am_gI σ k18 6 5).bind fun v19 =>
      some ((v19, 0, none), σ)
    else
      some (((-nI 1), 0, none), σ) := (am_L_it (d + 1) 104 45 true 0 [(0, .ref a0), (1, .int x1)] [] σ).symm
set_option maxRecDepth 100000 in
set_option maxHeartbeats 4000000 in
theorem e_X8_isEnd (d : Nat) (x0 : Int32) (σ : am_H) : f_X8_isEnd d x0 σ =
    bif decide (x0 = nI 0) then
      bif am_zb (nI 1) then some (((nI 1), 0, none), σ) else none
    else
      bif decide (¬ x0 = (nI 1)) then
        bif am_zb (nI 0) then some (((nI 0), 0, none), σ) else none
      else
        bif am_zb (nI 1) then some (((nI 1), 0, none), σ) else none := (am_L_it d 105 11 true 0 [(0, .int x0)] [] σ).symm
set_option maxRecDepth 100000 in
set_option maxHeartbeats 4000000 in
theorem e_X8_wayFrom (d : Nat) (a0 : Nat) (x1 : Int32) (σ : am_H) : f_X8_wayFrom d a0 x1 σ =
    bif decide (¬ x1 = nI 0) then
      (am_gR σ a0 8 1).bind fun k1 =>
      some ((0, 0, some k1), σ)
    else
      (am_gR σ a0 8 0).bind fun k2 =>
      some ((0, 0, some k2), σ) := (am_L_it d 106 10 true 0 [(0, .ref a0), (1, .int x1)] [] σ).symm
set_option maxRecDepth 100000 in
set_option maxHeartbeats 4000000 in
theorem e_X8_carryFrom (d : Nat) (a0 : Nat) (x1 : Int32) (x2 : Int32) (σ : am_H) : f_X8_carryFrom (d + 1) a0 x1 x2 σ =
    bif am_is σ a0 8 then
      (f_X8_wayFrom d a0 x1 σ).bind fun r1 =>
      am_cs r1.1.2.2 (
        bif decide (¬ x1 = nI 0) then
          (am_gR r1.2 a0 8 3).bind fun k3 =>
          none
        else
          (am_gR r1.2 a0 8 2).bind fun k4 =>
          none
      ) fun k2 =>
      bif decide (¬ x1 = nI 0) then
        (am_gR r1.2 a0 8 3).bind fun k5 =>
        (am_gI r1.2 k2 7 5).bind fun v6 =>
        l_X8_carryFrom_36 (d + 1) a0 x1 k2 k5 (if v6 < x2 then v6 else x2) (nI 1) r1.2
      else
        (am_gR r1.2 a0 8 2).bind fun k7 =>
        (am_gI r1.2 k2 7 5).bind fun v8 =>
        l_X8_carryFrom_36 (d + 1) a0 x1 k2 k7 (if v8 < x2 then v8 else x2) (nI 1) r1.2
    else none := (am_L_it (d + 1) 107 62 true 0 [(0, .ref a0), (1, .int x1), (2, .int x2)] [] σ).symm
set_option maxRecDepth 100000 in
set_option maxHeartbeats 4000000 in
theorem e_X8_clearLine (d : Nat) (a0 : Nat) (σ : am_H) : f_X8_clearLine (d + 1) a0 σ =
    (am_gR σ a0 8 0).bind fun k1 =>
    bif am_is σ k1 7 then
      (f_X7_clear d k1 σ).bind fun r2 =>
      (am_gR r2.2 a0 8 1).bind fun k3 =>
      bif am_is r2.2 k3 7 then
        (f_X7_clear d k3 r2.2).bind fun r4 =>
        (am_gR r4.2 a0 8 2).bind fun k5 =>
        bif am_is r4.2 k5 3 then
          (f_X3_clear d k5 r4.2).bind fun r6 =>
          (am_gR r6.2 a0 8 3).bind fun k7 =>
          bif am_is r6.2 k7 3 then
            (f_X3_clear d k7 r6.2).bind fun r8 =>
            some ((0, 0, none), r8.2)
          else none
        else none
      else none
    else none := (am_L_it (d + 1) 108 15 true 0 [(0, .ref a0)] [] σ).symm
set_option maxRecDepth 100000 in
set_option maxHeartbeats 4000000 in
theorem e_X8_sumOf (d : Nat) (a0 : Nat) (x1 : Int32) (x2 : Int32) (σ : am_H) : f_X8_sumOf d a0 x1 x2 σ =
    l_X8_sumOf_5 d a0 x2 (nI 0) x1 σ := (am_L_it d 109 21 true 0 [(0, .ref a0), (1, .int x1), (2, .int x2)] [] σ).symm
set_option maxRecDepth 100000 in
set_option maxHeartbeats 4000000 in
theorem e_l_X8_tick_42 (d : Nat) (a0 : Nat) (x1 : Int32) (x2 : Int32) (x3 : Int32) (x4 : Int32) (σ : am_H) : l_X8_tick_42 (d + 1) a0 x1 x2 x3 x4 σ =
    bif decide (x1 ≤ x4) then
      some ((x3, 0, none), σ)
    else
      (am_gR σ a0 8 4).bind fun k1 =>
      (am_gI σ k1 1 3).bind fun v2 =>
      bif decide (x2 ≤ v2) then
        some ((x3, 0, none), σ)
      else
        (am_gR σ a0 8 4).bind fun k3 =>
        (am_gR σ a0 8 4).bind fun k4 =>
        bif am_is σ k4 1 then
          (f_X1_nextDue d k4 x2 σ).bind fun r5 =>
          (am_pI r5.2 k3 1 3 r5.1.1).bind fun s6 =>
          (am_gR s6 a0 8 4).bind fun k7 =>
          bif am_is s6 k7 1 then
            (f_X1_runTick d k7 s6).bind fun r8 =>
            l_X8_tick_42 (d + 1) a0 x1 x2 (x3 + r8.1.1) (x4 + nI 1) r8.2
          else none
        else none := (am_L_it (d + 1) 96 51 true 42 [(0, .ref a0), (1, .int x1), (2, .int x2), (3, .int x3), (4, .int x4)] [] σ).symm
set_option maxRecDepth 100000 in
set_option maxHeartbeats 4000000 in
theorem e_l_X8_got_36 (d : Nat)  (σ : am_H) : l_X8_got_36 (d + 1)  σ =
    some ((0, 1, none), σ) := (am_L_it (d + 1) 98 31 true 36 [] [] σ).symm
set_option maxRecDepth 100000 in
set_option maxHeartbeats 4000000 in
theorem e_l_X8_carryFrom_36 (d : Nat) (a0 : Nat) (x1 : Int32) (a3 : Nat) (a4 : Nat) (x5 : Int32) (x6 : Int32) (σ : am_H) : l_X8_carryFrom_36 (d + 1) a0 x1 a3 a4 x5 x6 σ =
    bif decide (x5 < x6) then
      some ((x5, 0, none), σ)
    else
      bif am_is σ a3 7 then
        (f_X7_nextByte d a3 σ).bind fun r1 =>
        bif am_is r1.2 a4 3 then
          (f_X3_gather d a4 r1.1.1 r1.2).bind fun r2 =>
          bif decide (¬ r2.1.1 = (nI 2)) then
            bif decide (¬ r2.1.1 = (nI 1)) then
              l_X8_carryFrom_36 (d + 1) a0 x1 a3 a4 x5 (x6 + nI 1) r2.2
            else
              bif decide (¬ x1 = nI 0) then
                (am_gR r2.2 a0 8 4).bind fun k3 =>
                bif am_is r2.2 k3 1 then
                  (f_X1_act d k3 a4 r2.2).bind fun r4 =>
                  bif am_is r4.2 a4 3 then
                    (f_X3_clear d a4 r4.2).bind fun r5 =>
                    l_X8_carryFrom_36 (d + 1) a0 x1 a3 a4 x5 (x6 + nI 1) r5.2
                  else none
                else none
              else
                (am_gR r2.2 a0 8 5).bind fun k6 =>
                bif am_is r2.2 k6 6 then
                  (f_X6_act d k6 a4 r2.2).bind fun r7 =>
                  bif am_is r7.2 a4 3 then
                    (f_X3_clear d a4 r7.2).bind fun r8 =>
                    l_X8_carryFrom_36 (d + 1) a0 x1 a3 a4 x5 (x6 + nI 1) r8.2
                  else none
                else none
          else
            (am_gI r2.2 a0 8 6).bind fun v9 =>
            (am_pI r2.2 a0 8 6 (v9 + (nI 1))).bind fun s10 =>
            bif am_is s10 a0 8 then
              (f_X8_clearLine d a0 s10).bind fun r11 =>
              some ((x6, 0, none), r11.2)
            else none
        else none
      else none := (am_L_it (d + 1) 107 62 true 36 [(0, .ref a0), (1, .int x1), (3, .ref a3), (4, .ref a4), (5, .int x5), (6, .int x6)] [] σ).symm
set_option maxRecDepth 100000 in
set_option maxHeartbeats 4000000 in
theorem e_l_X8_sumOf_5 (d : Nat) (a0 : Nat) (x2 : Int32) (x3 : Int32) (x4 : Int32) (σ : am_H) : l_X8_sumOf_5 d a0 x2 x3 x4 σ =
    bif decide (x2 ≤ x4) then
      some (((x3 &&& (nI 255)), 0, none), σ)
    else
      (am_ldI σ a0 1 x4).bind fun v1 =>
      l_X8_sumOf_5 d a0 x2 (x3 + v1) (x4 + nI 1) σ := (am_L_it d 109 21 true 5 [(0, .ref a0), (2, .int x2), (3, .int x3), (4, .int x4)] [] σ).symm
