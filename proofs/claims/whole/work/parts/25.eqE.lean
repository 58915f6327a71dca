/-! what each stretch does (by program) -/
set_option maxRecDepth 100000 in
set_option maxHeartbeats 4000000 in
theorem e_X9_serve (d : Nat) (a0 : Nat) (x1 : Int32) (x2 : Int32) (x3 : Int32) (x4 : Int32) (σ : am_H) : f_X9_serve (d + 1) a0 x1 x2 x3 x4 σ =
    bif decide ((nI 6) ≤ x2) then
      l_X9_serve_14 (d + 1) a0 x1 x2 x3 x4 σ
    else
      bif decide (x4 = (nI 8)) then
        l_X9_serve_14 (d + 1) a0 x1 x2 x3 x4 σ
      else
        some ((0, 0, none), σ) := (am_L_it (d + 1) 142 79 true 0 [(0, .ref a0), (1, .int x1), (2, .int x2), (3, .int x3), (4, .int x4)] [] σ).symm
set_option maxRecDepth 100000 in
set_option maxHeartbeats 4000000 in
theorem e_X9_comeBytesOf (d : Nat) (a0 : Nat) (x1 : Int32) (x2 : Int32) (x3 : Int32) (σ : am_H) : f_X9_comeBytesOf d a0 x1 x2 x3 σ =
    (am_gR σ a0 9 21).bind fun k1 =>
    (am_ldI σ k1 1 x1).bind fun v2 =>
    bif decide (¬ v2 = x2) then
      some ((0, 0, none), σ)
    else
      bif decide ((x2 + x3) ≤ (nI 60)) then
        l_X9_comeBytesOf_22 d a0 x1 x2 x3 (nI 0) σ
      else
        some ((0, 0, none), σ) := (am_L_it d 143 46 true 0 [(0, .ref a0), (1, .int x1), (2, .int x2), (3, .int x3)] [] σ).symm
set_option maxRecDepth 100000 in
set_option maxHeartbeats 4000000 in
theorem e_X9_endRead (d : Nat) (a0 : Nat) (x1 : Int32) (x2 : Int32) (σ : am_H) : f_X9_endRead (d + 1) a0 x1 x2 σ =
    (am_gR σ a0 9 21).bind fun k1 =>
    (am_ldI σ k1 1 x1).bind fun v2 =>
    bif decide (v2 = x2) then
      (am_gR σ a0 9 22).bind fun k3 =>
      (f_X9_digestOf d k3 ((nI 60) * x1) x2 σ).bind fun r4 =>
      bif am_is r4.2 a0 9 then
        (f_X9_namedBy d a0 x1 r4.2).bind fun r5 =>
        bif decide (¬ (lg_cmp r4.1.2.1 r5.1.2.1) = nI 0) then
          bif am_is r5.2 a0 9 then
            (f_X9_ends d a0 x1 (-nI 3) r5.2).bind fun r6 =>
            some ((0, 0, none), r6.2)
          else none
        else
          bif am_is r5.2 a0 9 then
            (f_X9_ends d a0 x1 (nI 1) r5.2).bind fun r7 =>
            some ((0, 0, none), r7.2)
          else none
      else none
    else
      bif am_is σ a0 9 then
        (f_X9_hold d a0 x1 σ).bind fun r8 =>
        some ((0, 0, none), r8.2)
      else none := (am_L_it (d + 1) 144 31 true 0 [(0, .ref a0), (1, .int x1), (2, .int x2)] [] σ).symm
set_option maxRecDepth 100000 in
set_option maxHeartbeats 4000000 in
theorem e_X9_answer (d : Nat) (a0 : Nat) (x1 : Int32) (x2 : Int32) (x3 : Int32) (σ : am_H) : f_X9_answer (d + 1) a0 x1 x2 x3 σ =
    bif decide (¬ x3 = (nI 1)) then
      some ((0, 0, none), σ)
    else
      (am_gR σ a0 9 17).bind fun k1 =>
      (am_ldI σ k1 1 x1).bind fun v2 =>
      bif decide (v2 ≤ x2) then
        some ((0, 0, none), σ)
      else
        (am_gR σ a0 9 19).bind fun k3 =>
        (am_ldI σ k3 3 (((nI 4) * x1) + x2)).bind fun v4 =>
        bif decide (v4 = nI 0) then
          (am_gR σ a0 9 19).bind fun k5 =>
          (am_stZ σ k5 (((nI 4) * x1) + x2) (nI 1)).bind fun s6 =>
          (am_gR s6 a0 9 20).bind fun k7 =>
          (am_gR s6 a0 9 46).bind fun k8 =>
          (am_ldI s6 k8 1 (nI 4)).bind fun v9 =>
          bif decide (v9 = nI 0) then
            l_X9_answer_63 (d + 1) a0 x1 (nI 0) (((nI 4) * x1) + x2) k7 s6
          else
            l_X9_answer_63 (d + 1) a0 x1 (nI 1) (((nI 4) * x1) + x2) k7 s6
        else
          some ((0, 0, none), σ) := (am_L_it (d + 1) 145 59 true 0 [(0, .ref a0), (1, .int x1), (2, .int x2), (3, .int x3)] [] σ).symm
set_option maxRecDepth 100000 in
set_option maxHeartbeats 4000000 in
theorem e_X9_comeDigest (d : Nat) (a0 : Nat) (x1 : Int32) (x2 : Int32) (x3 : Int32) (σ : am_H) : f_X9_comeDigest (d + 1) a0 x1 x2 x3 σ =
    bif decide (¬ x3 = (nI 8)) then
      some ((0, 0, none), σ)
    else
      (am_gR σ a0 9 21).bind fun k1 =>
      (am_ldI σ k1 1 x1).bind fun v2 =>
      bif decide (¬ v2 = x2) then
        some ((0, 0, none), σ)
      else
        bif decide (x2 < (nI 3)) then
          (am_gR σ a0 9 23).bind fun k3 =>
          bif am_is σ a0 9 then
            (f_X9_longOf d a0 (nI 0) σ).bind fun r4 =>
            (am_stJ r4.2 k3 (((nI 3) * x1) + x2) r4.1.2.1).bind fun s5 =>
            (am_gR s5 a0 9 21).bind fun k6 =>
            (am_ldI s5 k6 1 x1).bind fun v7 =>
            (am_stI s5 k6 x1 (v7 + (nI 1))).bind fun s8 =>
            some ((0, 0, none), s8)
          else none
        else
          some ((0, 0, none), σ) := (am_L_it (d + 1) 146 35 true 0 [(0, .ref a0), (1, .int x1), (2, .int x2), (3, .int x3)] [] σ).symm
set_option maxRecDepth 100000 in
set_option maxHeartbeats 4000000 in
theorem e_X9_failed (d : Nat) (a0 : Nat) (x1 : Int32) (x2 : Int32) (σ : am_H) : f_X9_failed (d + 1) a0 x1 x2 σ =
    bif decide (x2 = (nI 1)) then
      (am_gR σ a0 9 46).bind fun k1 =>
      (am_ldI σ k1 1 (nI 4)).bind fun v2 =>
      bif decide (¬ v2 = (nI 1)) then
        l_X9_failed_23 (d + 1) a0 x1 v2 σ
      else
        bif am_is σ a0 9 then
          (f_X9_hold d a0 x1 σ).bind fun r3 =>
          l_X9_failed_23 (d + 1) a0 x1 v2 r3.2
        else none
    else
      some ((0, 0, none), σ) := (am_L_it (d + 1) 147 29 true 0 [(0, .ref a0), (1, .int x1), (2, .int x2)] [] σ).symm
set_option maxRecDepth 100000 in
set_option maxHeartbeats 4000000 in
theorem e_X9_heed (d : Nat) (a0 : Nat) (x1 : Int32) (x2 : Int32) (x3 : Int32) (x4 : Int32) (σ : am_H) : f_X9_heed (d + 1) a0 x1 x2 x3 x4 σ =
    bif am_is σ a0 9 then
      (f_X9_isCall d a0 x1 σ).bind fun r1 =>
      bif decide (r1.1.1 = nI 0) then
        some ((0, 0, none), r1.2)
      else
        bif am_is r1.2 a0 9 then
          (f_X9_goesOn d a0 x1 r1.2).bind fun r2 =>
          bif decide (¬ r2.1.1 = nI 0) then
            (am_gR r2.2 a0 9 7).bind fun k3 =>
            (am_ldI r2.2 k3 1 x1).bind fun v4 =>
            bif decide (¬ x2 = (nI 10)) then
              l_X9_heed_44 (d + 1) a0 x1 x2 x3 x4 v4 r2.2
            else
              bif decide (¬ v4 = nI 0) then
                l_X9_heed_44 (d + 1) a0 x1 x2 x3 x4 v4 r2.2
              else
                bif am_is r2.2 a0 9 then
                  (f_X9_answer d a0 x1 x3 x4 r2.2).bind fun r5 =>
                  l_X9_heed_44 (d + 1) a0 x1 x2 x3 x4 v4 r5.2
                else none
          else
            some ((0, 0, none), r2.2)
        else none
    else none := (am_L_it (d + 1) 148 125 true 0 [(0, .ref a0), (1, .int x1), (2, .int x2), (3, .int x3), (4, .int x4)] [] σ).symm
set_option maxRecDepth 100000 in
set_option maxHeartbeats 4000000 in
theorem e_X9_gone (d : Nat) (a0 : Nat) (σ : am_H) : f_X9_gone d a0 σ =
    l_X9_gone_2 d a0 (nI 0) σ := (am_L_it d 149 35 true 0 [(0, .ref a0)] [] σ).symm
set_option maxRecDepth 100000 in
set_option maxHeartbeats 4000000 in
theorem e_X9_dropFrame (d : Nat) (a0 : Nat) (x1 : Int32) (x2 : Int32) (σ : am_H) : f_X9_dropFrame d a0 x1 x2 σ =
    (am_gR σ a0 9 44).bind fun k1 =>
    (am_ldI σ k1 1 x1).bind fun v2 =>
    (am_stI σ k1 x1 (v2 - (nI 1))).bind fun s3 =>
    l_X9_dropFrame_12 d a0 x1 x2 s3 := (am_L_it d 150 39 true 0 [(0, .ref a0), (1, .int x1), (2, .int x2)] [] σ).symm
set_option maxRecDepth 100000 in
set_option maxHeartbeats 4000000 in
theorem e_X9_breaks (d : Nat) (a0 : Nat) (σ : am_H) : f_X9_breaks (d + 1) a0 σ =
    (am_gI σ a0 9 4).bind fun v1 =>
    (am_pI σ a0 9 4 (v1 + (nI 1))).bind fun s2 =>
    bif am_is s2 a0 9 then
      (f_X9_gone d a0 s2).bind fun r3 =>
      some ((0, 0, none), r3.2)
    else none := (am_L_it (d + 1) 151 11 true 0 [(0, .ref a0)] [] σ).symm
set_option maxRecDepth 100000 in
set_option maxHeartbeats 4000000 in
theorem e_X9_arrives (d : Nat) (a0 : Nat) (x1 : Int32) (σ : am_H) : f_X9_arrives (d + 1) a0 x1 σ =
    (am_gR σ a0 9 40).bind fun k1 =>
    (am_gR σ a0 9 41).bind fun k2 =>
    (am_ldI σ k2 1 x1).bind fun v3 =>
    (am_ldI σ k1 1 (((nI 4200) * x1) + v3)).bind fun v4 =>
    (am_gR σ a0 9 41).bind fun k5 =>
    (am_ldI σ k5 1 x1).bind fun v6 =>
    (am_stI σ k5 x1 (v6 + (nI 1))).bind fun s7 =>
    (am_gR s7 a0 9 42).bind fun k8 =>
    (am_ldI s7 k8 1 x1).bind fun v9 =>
    (am_stI s7 k8 x1 (v9 - (nI 1))).bind fun s10 =>
    (am_gR s10 a0 9 45).bind fun k11 =>
    (am_ldI s10 k11 1 x1).bind fun v12 =>
    (am_stI s10 k11 x1 (v12 + (nI 1))).bind fun s13 =>
    (am_gR s13 a0 9 45).bind fun k14 =>
    (am_ldI s13 k14 1 x1).bind fun v15 =>
    (am_gR s13 a0 9 43).bind fun k16 =>
    (am_ldI s13 k16 1 ((nI 900) * x1)).bind fun v17 =>
    bif decide (¬ v15 = v17) then
      l_X9_arrives_80 (d + 1) a0 x1 v4 s13
    else
      bif am_is s13 a0 9 then
        (f_X9_dropFrame d a0 x1 (nI 0) s13).bind fun r18 =>
        (am_gR r18.2 a0 9 45).bind fun k19 =>
        (am_stI r18.2 k19 x1 (nI 0)).bind fun s20 =>
        l_X9_arrives_80 (d + 1) a0 x1 v4 s20
      else none := (am_L_it (d + 1) 152 198 true 0 [(0, .ref a0), (1, .int x1)] [] σ).symm
set_option maxRecDepth 100000 in
set_option maxHeartbeats 4000000 in
theorem e_X9_carried (d : Nat) (a0 : Nat) (x1 : Int32) (x2 : Int32) (σ : am_H) : f_X9_carried (d + 1) a0 x1 x2 σ =
    l_X9_carried_5 (d + 1) a0 x1 x2 (nI 0) (nI 1) σ := (am_L_it (d + 1) 153 24 true 0 [(0, .ref a0), (1, .int x1), (2, .int x2)] [] σ).symm
set_option maxRecDepth 100000 in
set_option maxHeartbeats 4000000 in
theorem e_X9_call (d : Nat) (a0 : Nat) (x1 : Int32) (j2 : Int64) (σ : am_H) : f_X9_call d a0 x1 j2 σ =
    (am_pI σ a0 9 0 (nI 0)).bind fun s1 =>
    (am_gI s1 a0 9 6).bind fun v2 =>
    bif decide (v2 = (nI 30)) then
      some (((-nI 1), 0, none), s1)
    else
      bif decide (x1 < nI 0) then
        some (((-nI 1), 0, none), s1)
      else
        bif decide (x1 ≤ (nI 4)) then
          (am_gR s1 a0 9 7).bind fun k3 =>
          (am_gI s1 a0 9 6).bind fun v4 =>
          (am_stI s1 k3 v4 x1).bind fun s5 =>
          (am_gR s5 a0 9 13).bind fun k6 =>
          (am_gI s5 a0 9 6).bind fun v7 =>
          (am_stJ s5 k6 v7 j2).bind fun s8 =>
          (am_gI s8 a0 9 6).bind fun v9 =>
          (am_pI s8 a0 9 6 (v9 + (nI 1))).bind fun s10 =>
          (am_gI s10 a0 9 6).bind fun v11 =>
          some (((v11 - (nI 1)), 0, none), s10)
        else
          some (((-nI 1), 0, none), s1) := (am_L_it d 154 39 true 0 [(0, .ref a0), (1, .int x1), (2, .long j2)] [] σ).symm
set_option maxRecDepth 100000 in
set_option maxHeartbeats 4000000 in
theorem e_X9_data (d : Nat) (a0 : Nat) (x1 : Int32) (x2 : Int32) (σ : am_H) : f_X9_data (d + 1) a0 x1 x2 σ =
    (am_pI σ a0 9 0 (nI 0)).bind fun s1 =>
    bif am_is s1 a0 9 then
      (f_X9_isCall d a0 x1 s1).bind fun r2 =>
      bif decide (r2.1.1 = nI 0) then
        some (((-nI 1), 0, none), r2.2)
      else
        (am_gR r2.2 a0 9 7).bind fun k3 =>
        (am_ldI r2.2 k3 1 x1).bind fun v4 =>
        bif decide (¬ v4 = (nI 1)) then
          some (((-nI 1), 0, none), r2.2)
        else
          (am_gR r2.2 a0 9 12).bind fun k5 =>
          (am_ldI r2.2 k5 3 x1).bind fun v6 =>
          bif decide (¬ v6 = nI 0) then
            some (((-nI 1), 0, none), r2.2)
          else
            (am_gR r2.2 a0 9 15).bind fun k7 =>
            (am_ldI r2.2 k7 1 x1).bind fun v8 =>
            bif decide (¬ v8 = (nI 60)) then
              (am_gR r2.2 a0 9 16).bind fun k9 =>
              (am_gR r2.2 a0 9 15).bind fun k10 =>
              (am_ldI r2.2 k10 1 x1).bind fun v11 =>
              (am_stI r2.2 k9 (((nI 60) * x1) + v11) (x2 &&& (nI 255))).bind fun s12 =>
              (am_gR s12 a0 9 15).bind fun k13 =>
              (am_ldI s12 k13 1 x1).bind fun v14 =>
              (am_stI s12 k13 x1 (v14 + (nI 1))).bind fun s15 =>
              (am_gR s15 a0 9 15).bind fun k16 =>
              (am_ldI s15 k16 1 x1).bind fun v17 =>
              some ((v17, 0, none), s15)
            else
              some (((-nI 1), 0, none), r2.2)
    else none := (am_L_it (d + 1) 155 55 true 0 [(0, .ref a0), (1, .int x1), (2, .int x2)] [] σ).symm
set_option maxRecDepth 100000 in
set_option maxHeartbeats 4000000 in
theorem e_X9_name (d : Nat) (a0 : Nat) (x1 : Int32) (x2 : Int32) (j3 : Int64) (σ : am_H) : f_X9_name (d + 1) a0 x1 x2 j3 σ =
    (am_pI σ a0 9 0 (nI 0)).bind fun s1 =>
    bif am_is s1 a0 9 then
      (f_X9_isCall d a0 x1 s1).bind fun r2 =>
      bif decide (r2.1.1 = nI 0) then
        some (((-nI 1), 0, none), r2.2)
      else
        bif am_is r2.2 a0 9 then
          (f_X9_isCall d a0 x2 r2.2).bind fun r3 =>
          bif decide (r3.1.1 = nI 0) then
            some (((-nI 1), 0, none), r3.2)
          else
            (am_gR r3.2 a0 9 7).bind fun k4 =>
            (am_ldI r3.2 k4 1 x1).bind fun v5 =>
            bif decide (v5 = (nI 3)) then
              some (((-nI 1), 0, none), r3.2)
            else
              (am_gR r3.2 a0 9 12).bind fun k6 =>
              (am_ldI r3.2 k6 3 x1).bind fun v7 =>
              bif decide (¬ v7 = nI 0) then
                some (((-nI 1), 0, none), r3.2)
              else
                (am_gR r3.2 a0 9 7).bind fun k8 =>
                (am_ldI r3.2 k8 1 x2).bind fun v9 =>
                bif decide (v9 = (nI 1)) then
                  (am_gR r3.2 a0 9 7).bind fun k10 =>
                  (am_ldI r3.2 k10 1 x1).bind fun v11 =>
                  bif decide (¬ v11 = (nI 1)) then
                    (am_gR r3.2 a0 9 17).bind fun k12 =>
                    (am_ldI r3.2 k12 1 x1).bind fun v13 =>
                    (am_gR r3.2 a0 9 7).bind fun k14 =>
                    (am_ldI r3.2 k14 1 x1).bind fun v15 =>
                    bif decide (¬ v15 = nI 0) then
                      (am_gR r3.2 a0 9 7).bind fun k16 =>
                      (am_ldI r3.2 k16 1 x1).bind fun v17 =>
                      bif decide (¬ v17 = (nI 2)) then
                        l_X9_name_112 (d + 1) a0 x1 x2 j3 (nI 3) v13 r3.2
                      else
                        l_X9_name_112 (d + 1) a0 x1 x2 j3 (nI 1) v13 r3.2
                    else
                      l_X9_name_112 (d + 1) a0 x1 x2 j3 (nI 4) v13 r3.2
                  else
                    bif decide (x1 = x2) then
                      (am_gR r3.2 a0 9 14).bind fun k18 =>
                      (am_stJ r3.2 k18 x1 j3).bind fun s19 =>
                      some (((nI 1), 0, none), s19)
                    else
                      some (((-nI 1), 0, none), r3.2)
                else
                  some (((-nI 1), 0, none), r3.2)
        else none
    else none := (am_L_it (d + 1) 156 102 true 0 [(0, .ref a0), (1, .int x1), (2, .int x2), (3, .long j3)] [] σ).symm
set_option maxRecDepth 100000 in
set_option maxHeartbeats 4000000 in
theorem e_X9_begin (d : Nat) (a0 : Nat) (x1 : Int32) (x2 : Int32) (σ : am_H) : f_X9_begin (d + 1) a0 x1 x2 σ =
    (am_pI σ a0 9 0 (nI 0)).bind fun s1 =>
    bif am_is s1 a0 9 then
      (f_X9_isCall d a0 x1 s1).bind fun r2 =>
      bif decide (r2.1.1 = nI 0) then
        bif am_zb (nI 0) then some (((nI 0), 0, none), r2.2) else none
      else
        (am_gR r2.2 a0 9 12).bind fun k3 =>
        (am_ldI r2.2 k3 3 x1).bind fun v4 =>
        bif decide (¬ v4 = nI 0) then
          bif am_zb (nI 0) then some (((nI 0), 0, none), r2.2) else none
        else
          bif decide (x2 < (nI 1)) then
            bif am_zb (nI 0) then some (((nI 0), 0, none), r2.2) else none
          else
            bif decide (x2 ≤ (nI 100000)) then
              (am_gR r2.2 a0 9 12).bind fun k5 =>
              (am_stZ r2.2 k5 x1 (nI 1)).bind fun s6 =>
              (am_gR s6 a0 9 9).bind fun k7 =>
              (am_stI s6 k7 x1 x2).bind fun s8 =>
              bif am_is s8 a0 9 then
                (f_X9_open d a0 x1 s8).bind fun r9 =>
                bif am_zb (nI 1) then some (((nI 1), 0, none), r9.2) else none
              else none
            else
              bif am_zb (nI 0) then some (((nI 0), 0, none), r2.2) else none
    else none := (am_L_it (d + 1) 157 37 true 0 [(0, .ref a0), (1, .int x1), (2, .int x2)] [] σ).symm
set_option maxRecDepth 100000 in
set_option maxHeartbeats 4000000 in
theorem e_X9_carry (d : Nat) (a0 : Nat) (x1 : Int32) (x2 : Int32) (σ : am_H) : f_X9_carry (d + 1) a0 x1 x2 σ =
    (am_pI σ a0 9 0 (nI 0)).bind fun s1 =>
    bif decide (x1 < nI 0) then
      some (((-nI 1), 0, none), s1)
    else
      bif decide ((nI 1) < x1) then
        some (((-nI 1), 0, none), s1)
      else
        bif decide (nI 0 ≤ x2) then
          bif am_is s1 a0 9 then
            (f_X9_carried d a0 x1 x2 s1).bind fun r2 =>
            some ((r2.1.1, 0, none), r2.2)
          else none
        else
          some (((-nI 1), 0, none), s1) := (am_L_it (d + 1) 158 19 true 0 [(0, .ref a0), (1, .int x1), (2, .int x2)] [] σ).symm
set_option maxRecDepth 100000 in
set_option maxHeartbeats 4000000 in
theorem e_X9_cut (d : Nat) (a0 : Nat) (x1 : Int32) (x2 : Int32) (σ : am_H) : f_X9_cut (d + 1) a0 x1 x2 σ =
    (am_pI σ a0 9 0 (nI 0)).bind fun s1 =>
    bif decide (x1 < nI 0) then
      some (((-nI 1), 0, none), s1)
    else
      bif decide (nI 0 ≤ x2) then
        bif am_is s1 a0 9 then
          (f_X9_carried d a0 (nI 0) x1 s1).bind fun r2 =>
          bif am_is r2.2 a0 9 then
            (f_X9_carried d a0 (nI 1) x2 r2.2).bind fun r3 =>
            (am_gR r3.2 a0 9 42).bind fun k4 =>
            (am_ldI r3.2 k4 1 (nI 0)).bind fun v5 =>
            (am_gR r3.2 a0 9 42).bind fun k6 =>
            (am_ldI r3.2 k6 1 (nI 1)).bind fun v7 =>
            bif am_is r3.2 a0 9 then
              (f_X9_gone d a0 r3.2).bind fun r8 =>
              some (((v5 + v7), 0, none), r8.2)
            else none
          else none
        else none
      else
        some (((-nI 1), 0, none), s1) := (am_L_it (d + 1) 159 35 true 0 [(0, .ref a0), (1, .int x1), (2, .int x2)] [] σ).symm
set_option maxRecDepth 100000 in
set_option maxHeartbeats 4000000 in
theorem e_X9_firstWhole (d : Nat) (a0 : Nat) (x1 : Int32) (σ : am_H) : f_X9_firstWhole d a0 x1 σ =
    (am_gR σ a0 9 45).bind fun k1 =>
    (am_ldI σ k1 1 x1).bind fun v2 =>
    bif decide (v2 ≤ nI 0) then
      some (((nI 0), 0, none), σ)
    else
      some (((nI 1), 0, none), σ) := (am_L_it d 160 11 true 0 [(0, .ref a0), (1, .int x1)] [] σ).symm
set_option maxRecDepth 100000 in
set_option maxHeartbeats 4000000 in
theorem e_X9_isWhole (d : Nat) (a0 : Nat) (x1 : Int32) (x2 : Int32) (σ : am_H) : f_X9_isWhole (d + 1) a0 x1 x2 σ =
    bif decide (x1 < nI 0) then
      bif am_zb (nI 0) then some (((nI 0), 0, none), σ) else none
    else
      bif decide ((nI 2) ≤ x1) then
        bif am_zb (nI 0) then some (((nI 0), 0, none), σ) else none
      else
        bif decide (x2 < nI 0) then
          bif am_zb (nI 0) then some (((nI 0), 0, none), σ) else none
        else
          (am_gR σ a0 9 44).bind fun k1 =>
          (am_ldI σ k1 1 x1).bind fun v2 =>
          bif am_is σ a0 9 then
            (f_X9_firstWhole d a0 x1 σ).bind fun r3 =>
            bif decide ((v2 - r3.1.1) ≤ x2) then
              bif am_zb (nI 0) then some (((nI 0), 0, none), r3.2) else none
            else
              bif am_zb (nI 1) then some (((nI 1), 0, none), r3.2) else none
          else none := (am_L_it (d + 1) 161 23 true 0 [(0, .ref a0), (1, .int x1), (2, .int x2)] [] σ).symm
set_option maxRecDepth 100000 in
set_option maxHeartbeats 4000000 in
theorem e_X9_placeOf (d : Nat) (a0 : Nat) (x1 : Int32) (x2 : Int32) (σ : am_H) : f_X9_placeOf d a0 x1 x2 σ =
    (am_gR σ a0 9 41).bind fun k1 =>
    (am_ldI σ k1 1 x1).bind fun v2 =>
    (am_gR σ a0 9 45).bind fun k3 =>
    (am_ldI σ k3 1 x1).bind fun v4 =>
    l_X9_placeOf_17 d a0 x1 x2 (v2 - v4) (nI 0) σ := (am_L_it d 162 36 true 0 [(0, .ref a0), (1, .int x1), (2, .int x2)] [] σ).symm
set_option maxRecDepth 100000 in
set_option maxHeartbeats 4000000 in
theorem e_X9_lose (d : Nat) (a0 : Nat) (x1 : Int32) (x2 : Int32) (σ : am_H) : f_X9_lose (d + 1) a0 x1 x2 σ =
    (am_pI σ a0 9 0 (nI 0)).bind fun s1 =>
    bif am_is s1 a0 9 then
      (f_X9_isWhole d a0 x1 x2 s1).bind fun r2 =>
      bif decide (¬ r2.1.1 = nI 0) then
        bif am_is r2.2 a0 9 then
          (f_X9_firstWhole d a0 x1 r2.2).bind fun r3 =>
          (am_gR r3.2 a0 9 43).bind fun k4 =>
          (am_ldI r3.2 k4 1 (((nI 900) * x1) + (x2 + r3.1.1))).bind fun v5 =>
          (am_gR r3.2 a0 9 41).bind fun k6 =>
          (am_ldI r3.2 k6 1 x1).bind fun v7 =>
          (am_gR r3.2 a0 9 42).bind fun k8 =>
          (am_ldI r3.2 k8 1 x1).bind fun v9 =>
          bif am_is r3.2 a0 9 then
            (f_X9_placeOf d a0 x1 (x2 + r3.1.1) r3.2).bind fun r10 =>
            l_X9_lose_67 (d + 1) a0 x1 (x2 + r3.1.1) v5 ((((nI 4200) * x1) + v7) + v9) r10.1.1 r10.2
          else none
        else none
      else
        bif am_zb (nI 0) then some (((nI 0), 0, none), r2.2) else none
    else none := (am_L_it (d + 1) 163 77 true 0 [(0, .ref a0), (1, .int x1), (2, .int x2)] [] σ).symm
set_option maxRecDepth 100000 in
set_option maxHeartbeats 4000000 in
theorem e_X9_twice (d : Nat) (a0 : Nat) (x1 : Int32) (x2 : Int32) (σ : am_H) : f_X9_twice (d + 1) a0 x1 x2 σ =
    (am_pI σ a0 9 0 (nI 0)).bind fun s1 =>
    bif am_is s1 a0 9 then
      (f_X9_isWhole d a0 x1 x2 s1).bind fun r2 =>
      bif decide (¬ r2.1.1 = nI 0) then
        bif am_is r2.2 a0 9 then
          (f_X9_firstWhole d a0 x1 r2.2).bind fun r3 =>
          (am_gR r3.2 a0 9 43).bind fun k4 =>
          (am_ldI r3.2 k4 1 (((nI 900) * x1) + (x2 + r3.1.1))).bind fun v5 =>
          (am_gR r3.2 a0 9 42).bind fun k6 =>
          (am_ldI r3.2 k6 1 x1).bind fun v7 =>
          bif decide ((v7 + v5) ≤ (nI 2000)) then
            (am_gR r3.2 a0 9 41).bind fun k8 =>
            (am_ldI r3.2 k8 1 x1).bind fun v9 =>
            bif decide (v9 ≤ (nI 100)) then
              l_X9_twice_81 (d + 1) a0 x1 (x2 + r3.1.1) v5 r3.2
            else
              bif am_is r3.2 a0 9 then
                (f_X9_settle d a0 x1 r3.2).bind fun r10 =>
                l_X9_twice_81 (d + 1) a0 x1 (x2 + r3.1.1) v5 r10.2
              else none
          else
            (am_gI r3.2 a0 9 5).bind fun v11 =>
            (am_pI r3.2 a0 9 5 (v11 + (nI 1))).bind fun s12 =>
            bif am_zb (nI 1) then some (((nI 1), 0, none), s12) else none
        else none
      else
        bif am_zb (nI 0) then some (((nI 0), 0, none), r2.2) else none
    else none := (am_L_it (d + 1) 164 134 true 0 [(0, .ref a0), (1, .int x1), (2, .int x2)] [] σ).symm
set_option maxRecDepth 100000 in
set_option maxHeartbeats 4000000 in
theorem e_X9_settle (d : Nat) (a0 : Nat) (x1 : Int32) (σ : am_H) : f_X9_settle d a0 x1 σ =
    (am_gR σ a0 9 41).bind fun k1 =>
    (am_ldI σ k1 1 x1).bind fun v2 =>
    l_X9_settle_25 d a0 x1 (((nI 4200) * x1) + (nI 64)) (((nI 4200) * x1) + v2) (nI 0) σ := (am_L_it d 165 45 true 0 [(0, .ref a0), (1, .int x1)] [] σ).symm
set_option maxRecDepth 100000 in
set_option maxHeartbeats 4000000 in
theorem e_X9_lie (d : Nat) (a0 : Nat) (x1 : Int32) (x2 : Int32) (x3 : Int32) (σ : am_H) : f_X9_lie d a0 x1 x2 x3 σ =
    (am_pI σ a0 9 0 (nI 0)).bind fun s1 =>
    bif decide (x1 < nI 0) then
      bif am_zb (nI 0) then some (((nI 0), 0, none), s1) else none
    else
      bif decide ((nI 1) < x1) then
        bif am_zb (nI 0) then some (((nI 0), 0, none), s1) else none
      else
        bif decide (x2 < nI 0) then
          bif am_zb (nI 0) then some (((nI 0), 0, none), s1) else none
        else
          (am_gR s1 a0 9 42).bind fun k2 =>
          (am_ldI s1 k2 1 x1).bind fun v3 =>
          bif decide (v3 ≤ x2) then
            bif am_zb (nI 0) then some (((nI 0), 0, none), s1) else none
          else
            bif decide (¬ (x3 &&& (nI 255)) = nI 0) then
              (am_gR s1 a0 9 41).bind fun k4 =>
              (am_ldI s1 k4 1 x1).bind fun v5 =>
              (am_gR s1 a0 9 40).bind fun k6 =>
              (am_gR s1 a0 9 40).bind fun k7 =>
              (am_ldI s1 k7 1 ((((nI 4200) * x1) + v5) + x2)).bind fun v8 =>
              (am_stI s1 k6 ((((nI 4200) * x1) + v5) + x2) (v8 ^^^ (x3 &&& (nI 255)))).bind fun s9 =>
              bif am_zb (nI 1) then some (((nI 1), 0, none), s9) else none
            else
              bif am_zb (nI 0) then some (((nI 0), 0, none), s1) else none := (am_L_it d 166 49 true 0 [(0, .ref a0), (1, .int x1), (2, .int x2), (3, .int x3)] [] σ).symm
set_option maxRecDepth 100000 in
set_option maxHeartbeats 4000000 in
theorem e_X9_underway (d : Nat) (a0 : Nat) (x1 : Int32) (x2 : Int32) (σ : am_H) : f_X9_underway d a0 x1 x2 σ =
    (am_pI σ a0 9 0 (nI 0)).bind fun s1 =>
    bif decide (x1 < nI 0) then
      some (((-nI 1), 0, none), s1)
    else
      bif decide ((nI 1) < x1) then
        some (((-nI 1), 0, none), s1)
      else
        bif decide (x2 < nI 0) then
          some (((-nI 1), 0, none), s1)
        else
          (am_gR s1 a0 9 42).bind fun k2 =>
          (am_ldI s1 k2 1 x1).bind fun v3 =>
          bif decide (x2 < v3) then
            (am_gR s1 a0 9 40).bind fun k4 =>
            (am_gR s1 a0 9 41).bind fun k5 =>
            (am_ldI s1 k5 1 x1).bind fun v6 =>
            (am_ldI s1 k4 1 ((((nI 4200) * x1) + v6) + x2)).bind fun v7 =>
            some ((v7, 0, none), s1)
          else
            some (((-nI 1), 0, none), s1) := (am_L_it d 167 34 true 0 [(0, .ref a0), (1, .int x1), (2, .int x2)] [] σ).symm
set_option maxRecDepth 100000 in
set_option maxHeartbeats 4000000 in
theorem e_X9_cameTo (d : Nat) (a0 : Nat) (x1 : Int32) (σ : am_H) : f_X9_cameTo (d + 1) a0 x1 σ =
    (am_gR σ a0 9 7).bind fun k1 =>
    (am_ldI σ k1 1 x1).bind fun v2 =>
    bif decide (¬ v2 = nI 0) then
      (am_gR σ a0 9 7).bind fun k3 =>
      (am_ldI σ k3 1 x1).bind fun v4 =>
      bif decide (v4 = (nI 2)) then
        (am_gR σ a0 9 21).bind fun k5 =>
        (am_ldI σ k5 1 x1).bind fun v6 =>
        some ((v6, 0, none), σ)
      else
        (am_gR σ a0 9 7).bind fun k7 =>
        (am_ldI σ k7 1 x1).bind fun v8 =>
        bif decide (¬ v8 = (nI 3)) then
          some (((nI 0), 0, none), σ)
        else
          (am_gR σ a0 9 21).bind fun k9 =>
          (am_ldI σ k9 1 x1).bind fun v10 =>
          some ((v10, 0, none), σ)
    else
      bif am_is σ a0 9 then
        (f_X9_answers d a0 x1 σ).bind fun r11 =>
        some ((r11.1.1, 0, none), r11.2)
      else none := (am_L_it (d + 1) 168 30 true 0 [(0, .ref a0), (1, .int x1)] [] σ).symm
set_option maxRecDepth 100000 in
set_option maxHeartbeats 4000000 in
theorem e_X9_resume (d : Nat) (a0 : Nat) (x1 : Int32) (σ : am_H) : f_X9_resume (d + 1) a0 x1 σ =
    (am_pI σ a0 9 0 (nI 0)).bind fun s1 =>
    bif am_is s1 a0 9 then
      (f_X9_isCall d a0 x1 s1).bind fun r2 =>
      bif decide (r2.1.1 = nI 0) then
        some (((-nI 1), 0, none), r2.2)
      else
        bif am_is r2.2 a0 9 then
          (f_X9_goesOn d a0 x1 r2.2).bind fun r3 =>
          bif decide (¬ r3.1.1 = nI 0) then
            (am_gR r3.2 a0 9 10).bind fun k4 =>
            (am_stI r3.2 k4 x1 (nI 0)).bind fun s5 =>
            bif am_is s5 a0 9 then
              (f_X9_open d a0 x1 s5).bind fun r6 =>
              (am_gR r6.2 a0 9 7).bind fun k7 =>
              (am_ldI r6.2 k7 1 x1).bind fun v8 =>
              bif decide (¬ v8 = (nI 3)) then
                bif am_is r6.2 a0 9 then
                  (f_X9_cameTo d a0 x1 r6.2).bind fun r9 =>
                  some ((r9.1.1, 0, none), r9.2)
                else none
              else
                some (((nI 0), 0, none), r6.2)
            else none
          else
            some (((-nI 1), 0, none), r3.2)
        else none
    else none := (am_L_it (d + 1) 169 35 true 0 [(0, .ref a0), (1, .int x1)] [] σ).symm
set_option maxRecDepth 100000 in
set_option maxHeartbeats 4000000 in
theorem e_X9_tick (d : Nat) (a0 : Nat) (x1 : Int32) (σ : am_H) : f_X9_tick (d + 1) a0 x1 σ =
    (am_pI σ a0 9 0 (nI 0)).bind fun s1 =>
    bif decide (x1 < nI 0) then
      some (((-nI 1), 0, none), s1)
    else
      bif decide ((nI 1000) < x1) then
        some (((-nI 1), 0, none), s1)
      else
        (am_gI s1 a0 9 2).bind fun v2 =>
        bif decide ((v2 + x1) ≤ (nI 1000000)) then
          l_X9_tick_34 (d + 1) a0 x1 (nI 0) (nI 0) s1
        else
          some (((-nI 1), 0, none), s1) := (am_L_it (d + 1) 170 88 true 0 [(0, .ref a0), (1, .int x1)] [] σ).symm
set_option maxRecDepth 100000 in
set_option maxHeartbeats 4000000 in
theorem e_X9_end (d : Nat) (a0 : Nat) (x1 : Int32) (σ : am_H) : f_X9_end (d + 1) a0 x1 σ =
    (am_pI σ a0 9 0 (nI 0)).bind fun s1 =>
    bif am_is s1 a0 9 then
      (f_X9_isCall d a0 x1 s1).bind fun r2 =>
      bif decide (r2.1.1 = nI 0) then
        some (((-nI 9), 0, none), r2.2)
      else
        (am_gR r2.2 a0 9 8).bind fun k3 =>
        (am_ldI r2.2 k3 1 x1).bind fun v4 =>
        some ((v4, 0, none), r2.2)
    else none := (am_L_it (d + 1) 171 16 true 0 [(0, .ref a0), (1, .int x1)] [] σ).symm
set_option maxRecDepth 100000 in
set_option maxHeartbeats 4000000 in
theorem e_X9_got (d : Nat) (a0 : Nat) (x1 : Int32) (x2 : Int32) (σ : am_H) : f_X9_got (d + 1) a0 x1 x2 σ =
    bif am_is σ a0 9 then
      (f_X9_isCall d a0 x1 σ).bind fun r1 =>
      bif decide (r1.1.1 = nI 0) then
        l_X9_got_33 (d + 1) a0 x1 x2 a0 r1.2
      else
        (am_gR r1.2 a0 9 7).bind fun k2 =>
        (am_ldI r1.2 k2 1 x1).bind fun v3 =>
        bif decide (¬ v3 = (nI 2)) then
          l_X9_got_33 (d + 1) a0 x1 x2 a0 r1.2
        else
          bif decide (x2 < nI 0) then
            l_X9_got_33 (d + 1) a0 x1 x2 a0 r1.2
          else
            (am_gR r1.2 a0 9 21).bind fun k4 =>
            (am_ldI r1.2 k4 1 x1).bind fun v5 =>
            bif decide (x2 < v5) then
              l_X9_got_38 (d + 1) a0 x1 x2 (nI 0) a0 r1.2
            else
              l_X9_got_33 (d + 1) a0 x1 x2 a0 r1.2
    else none := (am_L_it (d + 1) 172 39 true 0 [(0, .ref a0), (1, .int x1), (2, .int x2)] [] σ).symm
set_option maxRecDepth 100000 in
set_option maxHeartbeats 4000000 in
theorem e_X9_named (d : Nat) (a0 : Nat) (x1 : Int32) (x2 : Int32) (σ : am_H) : f_X9_named (d + 1) a0 x1 x2 σ =
    (am_pI σ a0 9 0 (nI 0)).bind fun s1 =>
    bif am_is s1 a0 9 then
      (f_X9_isCall d a0 x1 s1).bind fun r2 =>
      bif decide (r2.1.1 = nI 0) then
        some ((0, (lN 0), none), r2.2)
      else
        bif decide (nI 0 ≤ x2) then
          (am_gR r2.2 a0 9 7).bind fun k3 =>
          (am_ldI r2.2 k3 1 x1).bind fun v4 =>
          bif decide (¬ v4 = (nI 1)) then
            (am_gR r2.2 a0 9 7).bind fun k5 =>
            (am_ldI r2.2 k5 1 x1).bind fun v6 =>
            bif decide (¬ v6 = (nI 3)) then
              (am_gR r2.2 a0 9 17).bind fun k7 =>
              (am_ldI r2.2 k7 1 x1).bind fun v8 =>
              bif decide (v8 ≤ x2) then
                some ((0, (lN 0), none), r2.2)
              else
                (am_gR r2.2 a0 9 18).bind fun k9 =>
                (am_ldJ r2.2 k9 (((nI 4) * x1) + x2)).bind fun w10 =>
                some ((0, w10, none), r2.2)
            else
              (am_gR r2.2 a0 9 21).bind fun k11 =>
              (am_ldI r2.2 k11 1 x1).bind fun v12 =>
              bif decide (v12 ≤ x2) then
                some ((0, (lN 0), none), r2.2)
              else
                (am_gR r2.2 a0 9 23).bind fun k13 =>
                (am_ldJ r2.2 k13 (((nI 3) * x1) + x2)).bind fun w14 =>
                some ((0, w14, none), r2.2)
          else
            bif decide (¬ x2 = nI 0) then
              some ((0, (lN 0), none), r2.2)
            else
              bif am_is r2.2 a0 9 then
                (f_X9_namedBy d a0 x1 r2.2).bind fun r15 =>
                some ((0, r15.1.2.1, none), r15.2)
              else none
        else
          some ((0, (lN 0), none), r2.2)
    else none := (am_L_it (d + 1) 173 67 true 0 [(0, .ref a0), (1, .int x1), (2, .int x2)] [] σ).symm
set_option maxRecDepth 100000 in
set_option maxHeartbeats 4000000 in
theorem e_X9_missing (d : Nat) (a0 : Nat) (x1 : Int32) (x2 : Int32) (σ : am_H) : f_X9_missing (d + 1) a0 x1 x2 σ =
    (am_pI σ a0 9 0 (nI 0)).bind fun s1 =>
    l_X9_missing_10 (d + 1) a0 x1 x2 x2 (nI 0) s1 := (am_L_it (d + 1) 174 54 true 0 [(0, .ref a0), (1, .int x1), (2, .int x2)] [] σ).symm
set_option maxRecDepth 100000 in
set_option maxHeartbeats 4000000 in
theorem e_X9_about (d : Nat) (a0 : Nat) (x1 : Int32) (x2 : Int32) (σ : am_H) : f_X9_about (d + 1) a0 x1 x2 σ =
    (am_pI σ a0 9 0 (nI 0)).bind fun s1 =>
    bif am_is s1 a0 9 then
      (f_X9_isCall d a0 x1 s1).bind fun r2 =>
      bif decide (¬ r2.1.1 = nI 0) then
        bif decide (x2 = nI 0) then
          (am_gR r2.2 a0 9 10).bind fun k3 =>
          (am_ldI r2.2 k3 1 x1).bind fun v4 =>
          some ((v4, 0, none), r2.2)
        else
        bif decide (x2 = nI 1) then
          (am_gR r2.2 a0 9 11).bind fun k5 =>
          (am_ldI r2.2 k5 1 x1).bind fun v6 =>
          some ((v6, 0, none), r2.2)
        else
        bif decide (x2 = nI 2) then
          bif am_is r2.2 a0 9 then
            (f_X9_cameTo d a0 x1 r2.2).bind fun r7 =>
            some ((r7.1.1, 0, none), r7.2)
          else none
        else
        bif decide (x2 = nI 3) then
          (am_gR r2.2 a0 9 32).bind fun k8 =>
          (am_ldI r2.2 k8 3 x1).bind fun v9 =>
          bif decide (v9 = nI 0) then
            some (((-nI 1), 0, none), r2.2)
          else
            (am_gR r2.2 a0 9 37).bind fun k10 =>
            (am_ldI r2.2 k10 1 x1).bind fun v11 =>
            some ((v11, 0, none), r2.2)
        else
          some (((-nI 1), 0, none), r2.2)
      else
        some (((-nI 1), 0, none), r2.2)
    else none := (am_L_it (d + 1) 175 41 true 0 [(0, .ref a0), (1, .int x1), (2, .int x2)] [] σ).symm
set_option maxRecDepth 100000 in
set_option maxHeartbeats 4000000 in
theorem e_X9_busy (d : Nat) (a0 : Nat) (x1 : Int32) (σ : am_H) : f_X9_busy d a0 x1 σ =
    (am_pI σ a0 9 0 (nI 0)).bind fun s1 =>
    bif decide (x1 < nI 0) then
      bif am_zb (nI 0) then some (((nI 0), 0, none), s1) else none
    else
      bif decide (x1 ≤ (nI 100)) then
        (am_pI s1 a0 9 3 x1).bind fun s2 =>
        bif am_zb (nI 1) then some (((nI 1), 0, none), s2) else none
      else
        bif am_zb (nI 0) then some (((nI 0), 0, none), s1) else none := (am_L_it d 176 17 true 0 [(0, .ref a0), (1, .int x1)] [] σ).symm
set_option maxRecDepth 100000 in
set_option maxHeartbeats 4000000 in
theorem e_X9_forget (d : Nat) (a0 : Nat) (x1 : Int32) (σ : am_H) : f_X9_forget (d + 1) a0 x1 σ =
    (am_pI σ a0 9 0 (nI 0)).bind fun s1 =>
    bif am_is s1 a0 9 then
      (f_X9_isCall d a0 x1 s1).bind fun r2 =>
      bif decide (r2.1.1 = nI 0) then
        bif am_zb (nI 0) then some (((nI 0), 0, none), r2.2) else none
      else
        (am_gR r2.2 a0 9 7).bind fun k3 =>
        (am_ldI r2.2 k3 1 x1).bind fun v4 =>
        bif decide (v4 = (nI 1)) then
          bif am_is r2.2 a0 9 then
            (f_X9_digestTold d a0 x1 r2.2).bind fun r5 =>
            bif am_is r5.2 a0 9 then
              (f_X9_blobOf d a0 r5.1.2.1 r5.2).bind fun r6 =>
              bif decide (¬ r6.1.1 = (-nI 1)) then
                (am_gI r6.2 a0 9 24).bind fun v7 =>
                (am_pI r6.2 a0 9 24 (v7 - (nI 1))).bind fun s8 =>
                (am_gR s8 a0 9 26).bind fun k9 =>
                (am_gR s8 a0 9 26).bind fun k10 =>
                (am_gI s8 a0 9 24).bind fun v11 =>
                (am_ldJ s8 k10 v11).bind fun w12 =>
                (am_stJ s8 k9 r6.1.1 w12).bind fun s13 =>
                (am_gR s13 a0 9 27).bind fun k14 =>
                (am_gR s13 a0 9 27).bind fun k15 =>
                (am_gI s13 a0 9 24).bind fun v16 =>
                (am_ldI s13 k15 1 v16).bind fun v17 =>
                (am_stI s13 k14 r6.1.1 v17).bind fun s18 =>
                l_X9_forget_84 (d + 1) a0 r6.1.1 (nI 0) s18
              else
                bif am_zb (nI 0) then some (((nI 0), 0, none), r6.2) else none
            else none
          else none
        else
          bif am_zb (nI 0) then some (((nI 0), 0, none), r2.2) else none
    else none := (am_L_it (d + 1) 177 78 true 0 [(0, .ref a0), (1, .int x1)] [] σ).symm
set_option maxRecDepth 100000 in
set_option maxHeartbeats 4000000 in
theorem e_X9_count (d : Nat) (a0 : Nat) (x1 : Int32) (σ : am_H) : f_X9_count (d + 1) a0 x1 σ =
    (am_pI σ a0 9 0 (nI 0)).bind fun s1 =>
    bif decide (x1 = nI 0) then
      (am_gR s1 a0 9 42).bind fun k2 =>
      (am_ldI s1 k2 1 (nI 0)).bind fun v3 =>
      some ((v3, 0, none), s1)
    else
    bif decide (x1 = nI 1) then
      (am_gR s1 a0 9 42).bind fun k4 =>
      (am_ldI s1 k4 1 (nI 1)).bind fun v5 =>
      some ((v5, 0, none), s1)
    else
    bif decide (x1 = nI 2) then
      (am_gR s1 a0 9 44).bind fun k6 =>
      (am_ldI s1 k6 1 (nI 0)).bind fun v7 =>
      bif am_is s1 a0 9 then
        (f_X9_firstWhole d a0 (nI 0) s1).bind fun r8 =>
        some (((v7 - r8.1.1), 0, none), r8.2)
      else none
    else
    bif decide (x1 = nI 3) then
      (am_gR s1 a0 9 44).bind fun k9 =>
      (am_ldI s1 k9 1 (nI 1)).bind fun v10 =>
      bif am_is s1 a0 9 then
        (f_X9_firstWhole d a0 (nI 1) s1).bind fun r11 =>
        some (((v10 - r11.1.1), 0, none), r11.2)
      else none
    else
    bif decide (x1 = nI 4) then
      (am_gI s1 a0 9 24).bind fun v12 =>
      some ((v12, 0, none), s1)
    else
    bif decide (x1 = nI 5) then
      (am_gI s1 a0 9 25).bind fun v13 =>
      some ((v13, 0, none), s1)
    else
    bif decide (x1 = nI 6) then
      (am_gI s1 a0 9 4).bind fun v14 =>
      some ((v14, 0, none), s1)
    else
    bif decide (x1 = nI 7) then
      (am_gI s1 a0 9 5).bind fun v15 =>
      some ((v15, 0, none), s1)
    else
    bif decide (x1 = nI 8) then
      (am_gI s1 a0 9 3).bind fun v16 =>
      some ((v16, 0, none), s1)
    else
      some (((-nI 1), 0, none), s1) := (am_L_it (d + 1) 178 52 true 0 [(0, .ref a0), (1, .int x1)] [] σ).symm
set_option maxRecDepth 100000 in
set_option maxHeartbeats 4000000 in
theorem e_l_X9_serve_14 (d : Nat) (a0 : Nat) (x1 : Int32) (x2 : Int32) (x3 : Int32) (x4 : Int32) (σ : am_H) : l_X9_serve_14 (d + 1) a0 x1 x2 x3 x4 σ =
    bif decide (¬ x4 = (nI 8)) then
      l_X9_serve_30 (d + 1) a0 x1 x2 x3 x4 (lN 0) σ
    else
      bif am_is σ a0 9 then
        (f_X9_longOf d a0 (nI 1) σ).bind fun r1 =>
        l_X9_serve_30 (d + 1) a0 x1 x2 x3 x4 r1.1.2.1 r1.2
      else none := (am_L_it (d + 1) 142 79 true 14 [(0, .ref a0), (1, .int x1), (2, .int x2), (3, .int x3), (4, .int x4)] [] σ).symm
set_option maxRecDepth 100000 in
set_option maxHeartbeats 4000000 in
theorem e_l_X9_comeBytesOf_22 (d : Nat) (a0 : Nat) (x1 : Int32) (x2 : Int32) (x3 : Int32) (x4 : Int32) (σ : am_H) : l_X9_comeBytesOf_22 d a0 x1 x2 x3 x4 σ =
    bif decide (x3 ≤ x4) then
      (am_gR σ a0 9 21).bind fun k1 =>
      (am_ldI σ k1 1 x1).bind fun v2 =>
      (am_stI σ k1 x1 (v2 + x3)).bind fun s3 =>
      some ((0, 0, none), s3)
    else
      (am_gR σ a0 9 22).bind fun k4 =>
      (am_gR σ a0 9 46).bind fun k5 =>
      (am_ldI σ k5 1 ((nI 4) + x4)).bind fun v6 =>
      (am_stI σ k4 ((((nI 60) * x1) + x2) + x4) v6).bind fun s7 =>
      l_X9_comeBytesOf_22 d a0 x1 x2 x3 (x4 + nI 1) s7 := (am_L_it d 143 46 true 22 [(0, .ref a0), (1, .int x1), (2, .int x2), (3, .int x3), (4, .int x4)] [] σ).symm
set_option maxRecDepth 100000 in
set_option maxHeartbeats 4000000 in
theorem e_l_X9_answer_63 (d : Nat) (a0 : Nat) (x1 : Int32) (t0 : Int32) (t1 : Int32) (p2 : Nat) (σ : am_H) : l_X9_answer_63 (d + 1) a0 x1 t0 t1 p2 σ =
    (am_stZ σ p2 t1 t0).bind fun s1 =>
    bif am_is s1 a0 9 then
      (f_X9_answers d a0 x1 s1).bind fun r2 =>
      (am_gR r2.2 a0 9 17).bind fun k3 =>
      (am_ldI r2.2 k3 1 x1).bind fun v4 =>
      bif decide (¬ r2.1.1 = v4) then
        some ((0, 0, none), r2.2)
      else
        bif am_is r2.2 a0 9 then
          (f_X9_ends d a0 x1 (nI 1) r2.2).bind fun r5 =>
          some ((0, 0, none), r5.2)
        else none
    else none := (am_L_it (d + 1) 145 59 true 63 [(0, .ref a0), (1, .int x1)] [.int t0, .int t1, .ref p2] σ).symm
set_option maxRecDepth 100000 in
set_option maxHeartbeats 4000000 in
theorem e_l_X9_failed_23 (d : Nat) (a0 : Nat) (x1 : Int32) (x3 : Int32) (σ : am_H) : l_X9_failed_23 (d + 1) a0 x1 x3 σ =
    bif decide (x3 < (nI 2)) then
      some ((0, 0, none), σ)
    else
      bif decide ((nI 4) < x3) then
        some ((0, 0, none), σ)
      else
        bif am_is σ a0 9 then
          (f_X9_ends d a0 x1 (-x3) σ).bind fun r1 =>
          some ((0, 0, none), r1.2)
        else none := (am_L_it (d + 1) 147 29 true 23 [(0, .ref a0), (1, .int x1), (3, .int x3)] [] σ).symm
set_option maxRecDepth 100000 in
set_option maxHeartbeats 4000000 in
theorem e_l_X9_heed_44 (d : Nat) (a0 : Nat) (x1 : Int32) (x2 : Int32) (x3 : Int32) (x4 : Int32) (x5 : Int32) (σ : am_H) : l_X9_heed_44 (d + 1) a0 x1 x2 x3 x4 x5 σ =
    bif decide (¬ x2 = (nI 11)) then
      l_X9_heed_68 (d + 1) a0 x1 x2 x3 x4 x5 σ
    else
      bif decide (x5 = (nI 1)) then
        l_X9_heed_62 (d + 1) a0 x1 x2 x3 x4 x5 σ
      else
        bif decide (¬ x5 = (nI 4)) then
          l_X9_heed_68 (d + 1) a0 x1 x2 x3 x4 x5 σ
        else
          l_X9_heed_62 (d + 1) a0 x1 x2 x3 x4 x5 σ := (am_L_it (d + 1) 148 125 true 44 [(0, .ref a0), (1, .int x1), (2, .int x2), (3, .int x3), (4, .int x4), (5, .int x5)] [] σ).symm
set_option maxRecDepth 100000 in
set_option maxHeartbeats 4000000 in
theorem e_l_X9_gone_2 (d : Nat) (a0 : Nat) (x1 : Int32) (σ : am_H) : l_X9_gone_2 d a0 x1 σ =
    bif decide ((nI 2) ≤ x1) then
      some ((0, 0, none), σ)
    else
      (am_gR σ a0 9 42).bind fun k1 =>
      (am_stI σ k1 x1 (nI 0)).bind fun s2 =>
      (am_gR s2 a0 9 41).bind fun k3 =>
      (am_stI s2 k3 x1 (nI 0)).bind fun s4 =>
      (am_gR s4 a0 9 44).bind fun k5 =>
      (am_stI s4 k5 x1 (nI 0)).bind fun s6 =>
      (am_gR s6 a0 9 45).bind fun k7 =>
      (am_stI s6 k7 x1 (nI 0)).bind fun s8 =>
      (am_gR s8 a0 9 47).bind fun k9 =>
      (am_stI s8 k9 x1 (nI 0)).bind fun s10 =>
      l_X9_gone_2 d a0 (x1 + nI 1) s10 := (am_L_it d 149 35 true 2 [(0, .ref a0), (1, .int x1)] [] σ).symm
set_option maxRecDepth 100000 in
set_option maxHeartbeats 4000000 in
theorem e_l_X9_dropFrame_12 (d : Nat) (a0 : Nat) (x1 : Int32) (x3 : Int32) (σ : am_H) : l_X9_dropFrame_12 d a0 x1 x3 σ =
    (am_gR σ a0 9 44).bind fun k1 =>
    (am_ldI σ k1 1 x1).bind fun v2 =>
    bif decide (v2 ≤ x3) then
      some ((0, 0, none), σ)
    else
      (am_gR σ a0 9 43).bind fun k3 =>
      (am_gR σ a0 9 43).bind fun k4 =>
      (am_ldI σ k4 1 ((((nI 900) * x1) + x3) + (nI 1))).bind fun v5 =>
      (am_stI σ k3 (((nI 900) * x1) + x3) v5).bind fun s6 =>
      l_X9_dropFrame_12 d a0 x1 (x3 + nI 1) s6 := (am_L_it d 150 39 true 12 [(0, .ref a0), (1, .int x1), (3, .int x3)] [] σ).symm
set_option maxRecDepth 100000 in
set_option maxHeartbeats 4000000 in
theorem e_l_X9_arrives_80 (d : Nat) (a0 : Nat) (x1 : Int32) (x2 : Int32) (σ : am_H) : l_X9_arrives_80 (d + 1) a0 x1 x2 σ =
    (am_gR σ a0 9 46).bind fun k1 =>
    (am_gR σ a0 9 47).bind fun k2 =>
    (am_ldI σ k2 1 ((nI 1) - x1)).bind fun v3 =>
    (am_stI σ k1 (((nI 64) * ((nI 1) - x1)) + v3) x2).bind fun s4 =>
    (am_gR s4 a0 9 47).bind fun k5 =>
    (am_ldI s4 k5 1 ((nI 1) - x1)).bind fun v6 =>
    (am_stI s4 k5 ((nI 1) - x1) (v6 + (nI 1))).bind fun s7 =>
    (am_gR s7 a0 9 46).bind fun k8 =>
    (am_ldI s7 k8 1 ((nI 64) * ((nI 1) - x1))).bind fun v9 =>
    bif decide (v9 < (nI 4)) then
      bif am_is s7 a0 9 then
        (f_X9_breaks d a0 s7).bind fun r10 =>
        bif am_zb (nI 0) then some (((nI 0), 0, none), r10.2) else none
      else none
    else
      (am_gI s7 a0 9 1).bind fun v11 =>
      bif decide (v9 ≤ ((nI 4) + v11)) then
        (am_gR s7 a0 9 47).bind fun k12 =>
        (am_ldI s7 k12 1 ((nI 1) - x1)).bind fun v13 =>
        bif decide (v9 < v13) then
          l_X9_arrives_166 (d + 1) a0 x2 ((nI 1) - x1) ((nI 64) * ((nI 1) - x1)) v9 (nI 0) (nI 0) s7
        else
          bif am_zb (nI 1) then some (((nI 1), 0, none), s7) else none
      else
        bif am_is s7 a0 9 then
          (f_X9_breaks d a0 s7).bind fun r14 =>
          bif am_zb (nI 0) then some (((nI 0), 0, none), r14.2) else none
        else none := (am_L_it (d + 1) 152 198 true 80 [(0, .ref a0), (1, .int x1), (2, .int x2)] [] σ).symm
set_option maxRecDepth 100000 in
set_option maxHeartbeats 4000000 in
theorem e_l_X9_carried_5 (d : Nat) (a0 : Nat) (x1 : Int32) (x2 : Int32) (x3 : Int32) (x4 : Int32) (σ : am_H) : l_X9_carried_5 (d + 1) a0 x1 x2 x3 x4 σ =
    bif decide (x2 ≤ x3) then
      some ((x3, 0, none), σ)
    else
      (am_gR σ a0 9 42).bind fun k1 =>
      (am_ldI σ k1 1 x1).bind fun v2 =>
      bif decide (v2 ≤ nI 0) then
        some ((x3, 0, none), σ)
      else
        bif decide (x4 = nI 0) then
          some ((x3, 0, none), σ)
        else
          bif am_is σ a0 9 then
            (f_X9_arrives d a0 x1 σ).bind fun r3 =>
            l_X9_carried_5 (d + 1) a0 x1 x2 (x3 + nI 1) r3.1.1 r3.2
          else none := (am_L_it (d + 1) 153 24 true 5 [(0, .ref a0), (1, .int x1), (2, .int x2), (3, .int x3), (4, .int x4)] [] σ).symm
set_option maxRecDepth 100000 in
set_option maxHeartbeats 4000000 in
theorem e_l_X9_name_112 (d : Nat) (a0 : Nat) (x1 : Int32) (x2 : Int32) (j3 : Int64) (t0 : Int32) (t1 : Int32) (σ : am_H) : l_X9_name_112 (d + 1) a0 x1 x2 j3 t0 t1 σ =
    bif decide (¬ t1 = t0) then
      (am_gR σ a0 9 18).bind fun k1 =>
      (am_gR σ a0 9 17).bind fun k2 =>
      (am_ldI σ k2 1 x1).bind fun v3 =>
      bif am_is σ a0 9 then
        (f_X9_digestTold d a0 x2 σ).bind fun r4 =>
        (am_stJ r4.2 k1 (((nI 4) * x1) + v3) (r4.1.2.1 ^^^ j3)).bind fun s5 =>
        (am_gR s5 a0 9 17).bind fun k6 =>
        (am_ldI s5 k6 1 x1).bind fun v7 =>
        (am_stI s5 k6 x1 (v7 + (nI 1))).bind fun s8 =>
        (am_gR s8 a0 9 17).bind fun k9 =>
        (am_ldI s8 k9 1 x1).bind fun v10 =>
        some ((v10, 0, none), s8)
      else none
    else
      some (((-nI 1), 0, none), σ) := (am_L_it (d + 1) 156 102 true 112 [(0, .ref a0), (1, .int x1), (2, .int x2), (3, .long j3)] [.int t0, .int t1] σ).symm
set_option maxRecDepth 100000 in
set_option maxHeartbeats 4000000 in
theorem e_l_X9_placeOf_17 (d : Nat) (a0 : Nat) (x1 : Int32) (x2 : Int32) (x3 : Int32) (x4 : Int32) (σ : am_H) : l_X9_placeOf_17 d a0 x1 x2 x3 x4 σ =
    bif decide (x2 ≤ x4) then
      some (((((nI 4200) * x1) + x3), 0, none), σ)
    else
      (am_gR σ a0 9 43).bind fun k1 =>
      (am_ldI σ k1 1 (((nI 900) * x1) + x4)).bind fun v2 =>
      l_X9_placeOf_17 d a0 x1 x2 (x3 + v2) (x4 + nI 1) σ := (am_L_it d 162 36 true 17 [(0, .ref a0), (1, .int x1), (2, .int x2), (3, .int x3), (4, .int x4)] [] σ).symm
set_option maxRecDepth 100000 in
set_option maxHeartbeats 4000000 in
theorem e_l_X9_lose_67 (d : Nat) (a0 : Nat) (x1 : Int32) (x3 : Int32) (x4 : Int32) (x5 : Int32) (x6 : Int32) (σ : am_H) : l_X9_lose_67 (d + 1) a0 x1 x3 x4 x5 x6 σ =
    bif decide (x5 ≤ (x6 + x4)) then
      (am_gR σ a0 9 42).bind fun k1 =>
      (am_ldI σ k1 1 x1).bind fun v2 =>
      (am_stI σ k1 x1 (v2 - x4)).bind fun s3 =>
      bif am_is s3 a0 9 then
        (f_X9_dropFrame d a0 x1 x3 s3).bind fun r4 =>
        bif am_zb (nI 1) then some (((nI 1), 0, none), r4.2) else none
      else none
    else
      (am_gR σ a0 9 40).bind fun k5 =>
      (am_gR σ a0 9 40).bind fun k6 =>
      (am_ldI σ k6 1 (x6 + x4)).bind fun v7 =>
      (am_stI σ k5 x6 v7).bind fun s8 =>
      l_X9_lose_67 (d + 1) a0 x1 x3 x4 x5 (x6 + nI 1) s8 := (am_L_it (d + 1) 163 77 true 67 [(0, .ref a0), (1, .int x1), (3, .int x3), (4, .int x4), (5, .int x5), (6, .int x6)] [] σ).symm
set_option maxRecDepth 100000 in
set_option maxHeartbeats 4000000 in
theorem e_l_X9_twice_81 (d : Nat) (a0 : Nat) (x1 : Int32) (x3 : Int32) (x4 : Int32) (σ : am_H) : l_X9_twice_81 (d + 1) a0 x1 x3 x4 σ =
    bif am_is σ a0 9 then
      (f_X9_placeOf d a0 x1 x3 σ).bind fun r1 =>
      (am_gR r1.2 a0 9 41).bind fun k2 =>
      (am_ldI r1.2 k2 1 x1).bind fun v3 =>
      (am_gR r1.2 a0 9 42).bind fun k4 =>
      (am_ldI r1.2 k4 1 x1).bind fun v5 =>
      l_X9_twice_112 (d + 1) a0 x1 x3 x4 r1.1.1 (((((nI 4200) * x1) + v3) + v5) - (nI 1)) r1.2
    else none := (am_L_it (d + 1) 164 134 true 81 [(0, .ref a0), (1, .int x1), (3, .int x3), (4, .int x4)] [] σ).symm
set_option maxRecDepth 100000 in
set_option maxHeartbeats 4000000 in
theorem e_l_X9_settle_25 (d : Nat) (a0 : Nat) (x1 : Int32) (x2 : Int32) (x3 : Int32) (x4 : Int32) (σ : am_H) : l_X9_settle_25 d a0 x1 x2 x3 x4 σ =
    (am_gR σ a0 9 42).bind fun k1 =>
    (am_ldI σ k1 1 x1).bind fun v2 =>
    bif decide (v2 ≤ x4) then
      (am_gR σ a0 9 41).bind fun k3 =>
      (am_stI σ k3 x1 (nI 64)).bind fun s4 =>
      some ((0, 0, none), s4)
    else
      (am_gR σ a0 9 40).bind fun k5 =>
      (am_gR σ a0 9 40).bind fun k6 =>
      (am_ldI σ k6 1 (x3 + x4)).bind fun v7 =>
      (am_stI σ k5 (x2 + x4) v7).bind fun s8 =>
      l_X9_settle_25 d a0 x1 x2 x3 (x4 + nI 1) s8 := (am_L_it d 165 45 true 25 [(0, .ref a0), (1, .int x1), (2, .int x2), (3, .int x3), (4, .int x4)] [] σ).symm
set_option maxRecDepth 100000 in
set_option maxHeartbeats 4000000 in
theorem e_l_X9_tick_34 (d : Nat) (a0 : Nat) (x1 : Int32) (x2 : Int32) (x3 : Int32) (σ : am_H) : l_X9_tick_34 (d + 1) a0 x1 x2 x3 σ =
    bif decide (x1 ≤ x3) then
      some ((x2, 0, none), σ)
    else
      (am_gI σ a0 9 2).bind fun v1 =>
      (am_pI σ a0 9 2 (v1 + (nI 1))).bind fun s2 =>
      l_X9_tick_52 (d + 1) a0 x1 x2 x3 (nI 0) s2 := (am_L_it (d + 1) 170 88 true 34 [(0, .ref a0), (1, .int x1), (2, .int x2), (3, .int x3)] [] σ).symm
set_option maxRecDepth 100000 in
set_option maxHeartbeats 4000000 in
theorem e_l_X9_got_33 (d : Nat) (a0 : Nat) (x1 : Int32) (x2 : Int32) (p0 : Nat) (σ : am_H) : l_X9_got_33 (d + 1) a0 x1 x2 p0 σ =
    l_X9_got_38 (d + 1) a0 x1 x2 (nI 1) p0 σ := (am_L_it (d + 1) 172 39 true 33 [(0, .ref a0), (1, .int x1), (2, .int x2)] [.ref p0] σ).symm
set_option maxRecDepth 100000 in
set_option maxHeartbeats 4000000 in
theorem e_l_X9_got_38 (d : Nat) (a0 : Nat) (x1 : Int32) (x2 : Int32) (t0 : Int32) (p1 : Nat) (σ : am_H) : l_X9_got_38 (d + 1) a0 x1 x2 t0 p1 σ =
    (am_pI σ p1 9 0 t0).bind fun s1 =>
    (am_gI s1 a0 9 0).bind fun v2 =>
    bif decide (v2 ≤ nI 0) then
      (am_gR s1 a0 9 22).bind fun k3 =>
      (am_ldI s1 k3 1 (((nI 60) * x1) + x2)).bind fun v4 =>
      some ((v4, 0, none), s1)
    else
      some (((nI 0), 0, none), s1) := (am_L_it (d + 1) 172 39 true 38 [(0, .ref a0), (1, .int x1), (2, .int x2)] [.int t0, .ref p1] σ).symm
set_option maxRecDepth 100000 in
set_option maxHeartbeats 4000000 in
theorem e_l_X9_missing_10 (d : Nat) (a0 : Nat) (x1 : Int32) (x2 : Int32) (x3 : Int32) (x4 : Int32) (σ : am_H) : l_X9_missing_10 (d + 1) a0 x1 x2 x3 x4 σ =
    bif am_is σ a0 9 then
      (f_X9_isCall d a0 x1 σ).bind fun r1 =>
      bif decide (r1.1.1 = nI 0) then
        some (((-nI 1), 0, none), r1.2)
      else
        (am_gR r1.2 a0 9 7).bind fun k2 =>
        (am_ldI r1.2 k2 1 x1).bind fun v3 =>
        bif decide (¬ v3 = nI 0) then
          some (((-nI 1), 0, none), r1.2)
        else
          bif decide (x2 < nI 0) then
            some (((-nI 1), 0, none), r1.2)
          else
            (am_gR r1.2 a0 9 17).bind fun k4 =>
            (am_ldI r1.2 k4 1 x1).bind fun v5 =>
            bif decide (v5 ≤ x4) then
              some (((-nI 1), 0, none), r1.2)
            else
              (am_gR r1.2 a0 9 19).bind fun k6 =>
              (am_ldI r1.2 k6 3 (((nI 4) * x1) + x4)).bind fun v7 =>
              bif decide (v7 = nI 0) then
                l_X9_missing_10 (d + 1) a0 x1 x2 x3 (x4 + nI 1) r1.2
              else
                (am_gR r1.2 a0 9 20).bind fun k8 =>
                (am_ldI r1.2 k8 3 (((nI 4) * x1) + x4)).bind fun v9 =>
                bif decide (v9 = nI 0) then
                  bif decide (¬ x3 = nI 0) then
                    l_X9_missing_10 (d + 1) a0 x1 x2 (x3 - nI 1) (x4 + nI 1) r1.2
                  else
                    some ((x4, 0, none), r1.2)
                else
                  l_X9_missing_10 (d + 1) a0 x1 x2 x3 (x4 + nI 1) r1.2
    else none := (am_L_it (d + 1) 174 54 true 10 [(0, .ref a0), (1, .int x1), (2, .int x2), (3, .int x3), (4, .int x4)] [] σ).symm
set_option maxRecDepth 100000 in
set_option maxHeartbeats 4000000 in
theorem e_l_X9_forget_84 (d : Nat) (a0 : Nat) (x2 : Int32) (x3 : Int32) (σ : am_H) : l_X9_forget_84 (d + 1) a0 x2 x3 σ =
    bif decide ((nI 60) ≤ x3) then
      bif am_zb (nI 1) then some (((nI 1), 0, none), σ) else none
    else
      (am_gR σ a0 9 28).bind fun k1 =>
      (am_gR σ a0 9 28).bind fun k2 =>
      (am_gI σ a0 9 24).bind fun v3 =>
      (am_ldI σ k2 1 (((nI 60) * v3) + x3)).bind fun v4 =>
      (am_stI σ k1 (((nI 60) * x2) + x3) v4).bind fun s5 =>
      l_X9_forget_84 (d + 1) a0 x2 (x3 + nI 1) s5 := (am_L_it (d + 1) 177 78 true 84 [(0, .ref a0), (2, .int x2), (3, .int x3)] [] σ).symm
set_option maxRecDepth 100000 in
set_option maxHeartbeats 4000000 in
theorem e_l_X9_serve_30 (d : Nat) (a0 : Nat) (x1 : Int32) (x2 : Int32) (x3 : Int32) (x4 : Int32) (u0 : Int64) (σ : am_H) : l_X9_serve_30 (d + 1) a0 x1 x2 x3 x4 u0 σ =
    bif decide (x2 = nI 0) then
      bif am_is σ a0 9 then
        (f_X9_blobOf d a0 u0 σ).bind fun r1 =>
        bif decide (r1.1.1 = (-nI 1)) then
          bif am_is r1.2 a0 9 then
            (f_X9_sendByte d a0 (nI 1) x1 (nI 10) x3 (nI 0) r1.2).bind fun r2 =>
            some ((0, 0, none), r2.2)
          else none
        else
          bif am_is r1.2 a0 9 then
            (f_X9_sendByte d a0 (nI 1) x1 (nI 10) x3 (nI 1) r1.2).bind fun r3 =>
            some ((0, 0, none), r3.2)
          else none
      else none
    else
    bif decide (x2 = nI 1) then
      bif am_is σ a0 9 then
        (f_X9_beginWrite d a0 x1 u0 σ).bind fun r4 =>
        some ((0, 0, none), r4.2)
      else none
    else
    bif decide (x2 = nI 2) then
      bif am_is σ a0 9 then
        (f_X9_readBlob d a0 x1 x3 u0 σ).bind fun r5 =>
        some ((0, 0, none), r5.2)
      else none
    else
    bif decide (x2 = nI 3) then
      bif am_is σ a0 9 then
        (f_X9_tellResult d a0 x1 u0 σ).bind fun r6 =>
        some ((0, 0, none), r6.2)
      else none
    else
    bif decide (x2 = nI 4) then
      bif am_is σ a0 9 then
        (f_X9_beginNote d a0 x1 u0 σ).bind fun r7 =>
        some ((0, 0, none), r7.2)
      else none
    else
    bif decide (x2 = nI 5) then
      bif am_is σ a0 9 then
        (f_X9_moreOfNote d a0 x1 x3 u0 σ).bind fun r8 =>
        some ((0, 0, none), r8.2)
      else none
    else
    bif decide (x2 = nI 6) then
      bif am_is σ a0 9 then
        (f_X9_endNote d a0 x1 x3 σ).bind fun r9 =>
        some ((0, 0, none), r9.2)
      else none
    else
    bif decide (x2 = nI 7) then
      bif am_is σ a0 9 then
        (f_X9_moreOfPartial d a0 x1 x3 x4 σ).bind fun r10 =>
        some ((0, 0, none), r10.2)
      else none
    else
    bif decide (x2 = nI 8) then
      bif am_is σ a0 9 then
        (f_X9_endWrite d a0 x1 x3 σ).bind fun r11 =>
        some ((0, 0, none), r11.2)
      else none
    else
      some ((0, 0, none), σ) := (am_L_it (d + 1) 142 79 true 30 [(0, .ref a0), (1, .int x1), (2, .int x2), (3, .int x3), (4, .int x4)] [.long u0] σ).symm
set_option maxRecDepth 100000 in
set_option maxHeartbeats 4000000 in
theorem e_l_X9_heed_68 (d : Nat) (a0 : Nat) (x1 : Int32) (x2 : Int32) (x3 : Int32) (x4 : Int32) (x5 : Int32) (σ : am_H) : l_X9_heed_68 (d + 1) a0 x1 x2 x3 x4 x5 σ =
    bif decide (¬ x2 = (nI 12)) then
      l_X9_heed_111 (d + 1) a0 x1 x2 x3 x4 x5 σ
    else
      bif decide (¬ x5 = (nI 1)) then
        l_X9_heed_111 (d + 1) a0 x1 x2 x3 x4 x5 σ
      else
        (am_gR σ a0 9 15).bind fun k1 =>
        (am_ldI σ k1 1 x1).bind fun v2 =>
        bif decide (v2 < x3) then
          l_X9_heed_111 (d + 1) a0 x1 x2 x3 x4 x5 σ
        else
          (am_gR σ a0 9 16).bind fun k3 =>
          (am_gR σ a0 9 15).bind fun k4 =>
          (am_ldI σ k4 1 x1).bind fun v5 =>
          bif am_is σ a0 9 then
            (f_X9_pieces d a0 (nI 0) x1 k3 ((nI 60) * x1) v5 x3 σ).bind fun r6 =>
            l_X9_heed_111 (d + 1) a0 x1 x2 x3 x4 x5 r6.2
          else none := (am_L_it (d + 1) 148 125 true 68 [(0, .ref a0), (1, .int x1), (2, .int x2), (3, .int x3), (4, .int x4), (5, .int x5)] [] σ).symm
set_option maxRecDepth 100000 in
set_option maxHeartbeats 4000000 in
theorem e_l_X9_heed_62 (d : Nat) (a0 : Nat) (x1 : Int32) (x2 : Int32) (x3 : Int32) (x4 : Int32) (x5 : Int32) (σ : am_H) : l_X9_heed_62 (d + 1) a0 x1 x2 x3 x4 x5 σ =
    bif am_is σ a0 9 then
      (f_X9_ends d a0 x1 (nI 1) σ).bind fun r1 =>
      l_X9_heed_68 (d + 1) a0 x1 x2 x3 x4 x5 r1.2
    else none := (am_L_it (d + 1) 148 125 true 62 [(0, .ref a0), (1, .int x1), (2, .int x2), (3, .int x3), (4, .int x4), (5, .int x5)] [] σ).symm
set_option maxRecDepth 100000 in
set_option maxHeartbeats 4000000 in
theorem e_l_X9_arrives_166 (d : Nat) (a0 : Nat) (x2 : Int32) (x3 : Int32) (x4 : Int32) (x5 : Int32) (x6 : Int32) (x7 : Int32) (σ : am_H) : l_X9_arrives_166 (d + 1) a0 x2 x3 x4 x5 x6 x7 σ =
    bif decide (x5 ≤ x7) then
      bif decide ((x6 &&& (nI 255)) = x2) then
        (am_gR σ a0 9 47).bind fun k1 =>
        (am_stI σ k1 x3 (nI 0)).bind fun s2 =>
        (am_gR s2 a0 9 46).bind fun k3 =>
        (am_ldI s2 k3 1 (x4 + (nI 1))).bind fun v4 =>
        bif decide ((nI 30) ≤ v4) then
          l_X9_arrives_268 (d + 1) a0 x3 x4 x5 v4 s2
        else
          bif decide (¬ x3 = (nI 1)) then
            l_X9_arrives_268 (d + 1) a0 x3 x4 x5 v4 s2
          else
            (am_gR s2 a0 9 46).bind fun k5 =>
            (am_ldI s2 k5 1 (x4 + (nI 2))).bind fun v6 =>
            (am_gR s2 a0 9 46).bind fun k7 =>
            (am_ldI s2 k7 1 (x4 + (nI 3))).bind fun v8 =>
            bif am_is s2 a0 9 then
              (f_X9_serve d a0 v4 v6 v8 (x5 - (nI 4)) s2).bind fun r9 =>
              l_X9_arrives_268 (d + 1) a0 x3 x4 x5 v4 r9.2
            else none
      else
        bif am_is σ a0 9 then
          (f_X9_breaks d a0 σ).bind fun r10 =>
          bif am_zb (nI 0) then some (((nI 0), 0, none), r10.2) else none
        else none
    else
      (am_gR σ a0 9 46).bind fun k11 =>
      (am_ldI σ k11 1 (x4 + x7)).bind fun v12 =>
      l_X9_arrives_166 (d + 1) a0 x2 x3 x4 x5 (x6 + v12) (x7 + nI 1) σ := (am_L_it (d + 1) 152 198 true 166 [(0, .ref a0), (2, .int x2), (3, .int x3), (4, .int x4), (5, .int x5), (6, .int x6), (7, .int x7)] [] σ).symm
set_option maxRecDepth 100000 in
set_option maxHeartbeats 4000000 in
theorem e_l_X9_twice_112 (d : Nat) (a0 : Nat) (x1 : Int32) (x3 : Int32) (x4 : Int32) (x5 : Int32) (x6 : Int32) (σ : am_H) : l_X9_twice_112 (d + 1) a0 x1 x3 x4 x5 x6 σ =
    bif decide (x6 < x5) then
      (am_gR σ a0 9 42).bind fun k1 =>
      (am_ldI σ k1 1 x1).bind fun v2 =>
      (am_stI σ k1 x1 (v2 + x4)).bind fun s3 =>
      (am_gR s3 a0 9 44).bind fun k4 =>
      (am_ldI s3 k4 1 x1).bind fun v5 =>
      l_X9_twice_161 (d + 1) a0 x1 x3 v5 s3
    else
      (am_gR σ a0 9 40).bind fun k6 =>
      (am_gR σ a0 9 40).bind fun k7 =>
      (am_ldI σ k7 1 x6).bind fun v8 =>
      (am_stI σ k6 (x6 + x4) v8).bind fun s9 =>
      l_X9_twice_112 (d + 1) a0 x1 x3 x4 x5 (x6 - nI 1) s9 := (am_L_it (d + 1) 164 134 true 112 [(0, .ref a0), (1, .int x1), (3, .int x3), (4, .int x4), (5, .int x5), (6, .int x6)] [] σ).symm
set_option maxRecDepth 100000 in
set_option maxHeartbeats 4000000 in
theorem e_l_X9_tick_52 (d : Nat) (a0 : Nat) (x1 : Int32) (x2 : Int32) (x3 : Int32) (x4 : Int32) (σ : am_H) : l_X9_tick_52 (d + 1) a0 x1 x2 x3 x4 σ =
    (am_gI σ a0 9 6).bind fun v1 =>
    bif decide (v1 ≤ x4) then
      l_X9_tick_34 (d + 1) a0 x1 x2 (x3 + nI 1) σ
    else
      bif am_is σ a0 9 then
        (f_X9_goesOn d a0 x4 σ).bind fun r2 =>
        bif decide (¬ r2.1.1 = nI 0) then
          (am_gR r2.2 a0 9 9).bind fun k3 =>
          (am_ldI r2.2 k3 1 x4).bind fun v4 =>
          (am_stI r2.2 k3 x4 (v4 - (nI 1))).bind fun s5 =>
          (am_gR s5 a0 9 9).bind fun k6 =>
          (am_ldI s5 k6 1 x4).bind fun v7 =>
          bif decide (¬ v7 = nI 0) then
            (am_gR s5 a0 9 10).bind fun k8 =>
            (am_ldI s5 k8 1 x4).bind fun v9 =>
            bif decide (v9 ≤ nI 0) then
              l_X9_tick_52 (d + 1) a0 x1 x2 x3 (x4 + nI 1) s5
            else
              (am_gR s5 a0 9 10).bind fun k10 =>
              (am_ldI s5 k10 1 x4).bind fun v11 =>
              (am_stI s5 k10 x4 (v11 - (nI 1))).bind fun s12 =>
              (am_gR s12 a0 9 10).bind fun k13 =>
              (am_ldI s12 k13 1 x4).bind fun v14 =>
              bif decide (¬ v14 = nI 0) then
                l_X9_tick_52 (d + 1) a0 x1 x2 x3 (x4 + nI 1) s12
              else
                bif am_is s12 a0 9 then
                  (f_X9_open d a0 x4 s12).bind fun r15 =>
                  l_X9_tick_52 (d + 1) a0 x1 x2 x3 (x4 + nI 1) r15.2
                else none
          else
            bif am_is s5 a0 9 then
              (f_X9_ends d a0 x4 (-nI 1) s5).bind fun r16 =>
              l_X9_tick_52 (d + 1) a0 x1 (x2 + nI 1) x3 (x4 + nI 1) r16.2
            else none
        else
          l_X9_tick_52 (d + 1) a0 x1 x2 x3 (x4 + nI 1) r2.2
      else none := (am_L_it (d + 1) 170 88 true 52 [(0, .ref a0), (1, .int x1), (2, .int x2), (3, .int x3), (4, .int x4)] [] σ).symm
set_option maxRecDepth 100000 in
set_option maxHeartbeats 4000000 in
theorem e_l_X9_heed_111 (d : Nat) (a0 : Nat) (x1 : Int32) (x2 : Int32) (x3 : Int32) (x4 : Int32) (x5 : Int32) (σ : am_H) : l_X9_heed_111 (d + 1) a0 x1 x2 x3 x4 x5 σ =
    bif decide (¬ x2 = (nI 7)) then
      l_X9_heed_131 (d + 1) a0 x1 x2 x3 x4 x5 σ
    else
      bif decide (¬ x5 = (nI 2)) then
        l_X9_heed_131 (d + 1) a0 x1 x2 x3 x4 x5 σ
      else
        bif am_is σ a0 9 then
          (f_X9_comeBytesOf d a0 x1 x3 x4 σ).bind fun r1 =>
          l_X9_heed_131 (d + 1) a0 x1 x2 x3 x4 x5 r1.2
        else none := (am_L_it (d + 1) 148 125 true 111 [(0, .ref a0), (1, .int x1), (2, .int x2), (3, .int x3), (4, .int x4), (5, .int x5)] [] σ).symm
set_option maxRecDepth 100000 in
set_option maxHeartbeats 4000000 in
theorem e_l_X9_arrives_268 (d : Nat) (a0 : Nat) (x3 : Int32) (x4 : Int32) (x5 : Int32) (x7 : Int32) (σ : am_H) : l_X9_arrives_268 (d + 1) a0 x3 x4 x5 x7 σ =
    bif decide ((nI 30) ≤ x7) then
      bif am_zb (nI 1) then some (((nI 1), 0, none), σ) else none
    else
      bif decide (¬ x3 = nI 0) then
        bif am_zb (nI 1) then some (((nI 1), 0, none), σ) else none
      else
        (am_gR σ a0 9 46).bind fun k1 =>
        (am_ldI σ k1 1 (x4 + (nI 2))).bind fun v2 =>
        (am_gR σ a0 9 46).bind fun k3 =>
        (am_ldI σ k3 1 (x4 + (nI 3))).bind fun v4 =>
        bif am_is σ a0 9 then
          (f_X9_heed d a0 x7 v2 v4 (x5 - (nI 4)) σ).bind fun r5 =>
          bif am_zb (nI 1) then some (((nI 1), 0, none), r5.2) else none
        else none := (am_L_it (d + 1) 152 198 true 268 [(0, .ref a0), (3, .int x3), (4, .int x4), (5, .int x5), (7, .int x7)] [] σ).symm
set_option maxRecDepth 100000 in
set_option maxHeartbeats 4000000 in
theorem e_l_X9_twice_161 (d : Nat) (a0 : Nat) (x1 : Int32) (x3 : Int32) (x6 : Int32) (σ : am_H) : l_X9_twice_161 (d + 1) a0 x1 x3 x6 σ =
    bif decide (x6 ≤ x3) then
      (am_gR σ a0 9 44).bind fun k1 =>
      (am_ldI σ k1 1 x1).bind fun v2 =>
      (am_stI σ k1 x1 (v2 + (nI 1))).bind fun s3 =>
      bif am_zb (nI 1) then some (((nI 1), 0, none), s3) else none
    else
      (am_gR σ a0 9 43).bind fun k4 =>
      (am_gR σ a0 9 43).bind fun k5 =>
      (am_ldI σ k5 1 ((((nI 900) * x1) + x6) - (nI 1))).bind fun v6 =>
      (am_stI σ k4 (((nI 900) * x1) + x6) v6).bind fun s7 =>
      l_X9_twice_161 (d + 1) a0 x1 x3 (x6 - nI 1) s7 := (am_L_it (d + 1) 164 134 true 161 [(0, .ref a0), (1, .int x1), (3, .int x3), (6, .int x6)] [] σ).symm
set_option maxRecDepth 100000 in
set_option maxHeartbeats 4000000 in
theorem e_l_X9_heed_131 (d : Nat) (a0 : Nat) (x1 : Int32) (x2 : Int32) (x3 : Int32) (x4 : Int32) (x5 : Int32) (σ : am_H) : l_X9_heed_131 (d + 1) a0 x1 x2 x3 x4 x5 σ =
    bif decide (¬ x2 = (nI 8)) then
      l_X9_heed_149 (d + 1) a0 x1 x2 x3 x4 x5 σ
    else
      bif decide (¬ x5 = (nI 2)) then
        l_X9_heed_149 (d + 1) a0 x1 x2 x3 x4 x5 σ
      else
        bif am_is σ a0 9 then
          (f_X9_endRead d a0 x1 x3 σ).bind fun r1 =>
          l_X9_heed_149 (d + 1) a0 x1 x2 x3 x4 x5 r1.2
        else none := (am_L_it (d + 1) 148 125 true 131 [(0, .ref a0), (1, .int x1), (2, .int x2), (3, .int x3), (4, .int x4), (5, .int x5)] [] σ).symm
set_option maxRecDepth 100000 in
set_option maxHeartbeats 4000000 in
theorem e_l_X9_heed_149 (d : Nat) (a0 : Nat) (x1 : Int32) (x2 : Int32) (x3 : Int32) (x4 : Int32) (x5 : Int32) (σ : am_H) : l_X9_heed_149 (d + 1) a0 x1 x2 x3 x4 x5 σ =
    bif decide (¬ x2 = (nI 5)) then
      l_X9_heed_168 (d + 1) a0 x1 x2 x3 x4 x5 σ
    else
      bif decide (¬ x5 = (nI 3)) then
        l_X9_heed_168 (d + 1) a0 x1 x2 x3 x4 x5 σ
      else
        bif am_is σ a0 9 then
          (f_X9_comeDigest d a0 x1 x3 x4 σ).bind fun r1 =>
          l_X9_heed_168 (d + 1) a0 x1 x2 x3 x4 x5 r1.2
        else none := (am_L_it (d + 1) 148 125 true 149 [(0, .ref a0), (1, .int x1), (2, .int x2), (3, .int x3), (4, .int x4), (5, .int x5)] [] σ).symm
set_option maxRecDepth 100000 in
set_option maxHeartbeats 4000000 in
theorem e_l_X9_heed_168 (d : Nat) (a0 : Nat) (x1 : Int32) (x2 : Int32) (x3 : Int32) (x4 : Int32) (x5 : Int32) (σ : am_H) : l_X9_heed_168 (d + 1) a0 x1 x2 x3 x4 x5 σ =
    bif decide (¬ x2 = (nI 6)) then
      l_X9_heed_204 (d + 1) a0 x1 x2 x4 σ
    else
      bif decide (¬ x5 = (nI 3)) then
        l_X9_heed_204 (d + 1) a0 x1 x2 x4 σ
      else
        (am_gR σ a0 9 21).bind fun k1 =>
        (am_ldI σ k1 1 x1).bind fun v2 =>
        bif decide (¬ v2 = x3) then
          bif am_is σ a0 9 then
            (f_X9_hold d a0 x1 σ).bind fun r3 =>
            l_X9_heed_204 (d + 1) a0 x1 x2 x4 r3.2
          else none
        else
          bif am_is σ a0 9 then
            (f_X9_ends d a0 x1 (nI 1) σ).bind fun r4 =>
            l_X9_heed_204 (d + 1) a0 x1 x2 x4 r4.2
          else none := (am_L_it (d + 1) 148 125 true 168 [(0, .ref a0), (1, .int x1), (2, .int x2), (3, .int x3), (4, .int x4), (5, .int x5)] [] σ).symm
set_option maxRecDepth 100000 in
set_option maxHeartbeats 4000000 in
theorem e_l_X9_heed_204 (d : Nat) (a0 : Nat) (x1 : Int32) (x2 : Int32) (x4 : Int32) (σ : am_H) : l_X9_heed_204 (d + 1) a0 x1 x2 x4 σ =
    bif decide (¬ x2 = (nI 13)) then
      some ((0, 0, none), σ)
    else
      bif am_is σ a0 9 then
        (f_X9_failed d a0 x1 x4 σ).bind fun r1 =>
        some ((0, 0, none), r1.2)
      else none := (am_L_it (d + 1) 148 125 true 204 [(0, .ref a0), (1, .int x1), (2, .int x2), (4, .int x4)] [] σ).symm
