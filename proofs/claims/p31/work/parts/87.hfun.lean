noncomputable def hL_number (L : Nat) (xs : Nat → Int32) (x1 : Int32) : Option Int32 :=
  if (Int32.ofNat L) ≤ x1 then (
    some ((((15516611 : Int32) * (x1 + (5 : Int32))) + (10091 : Int32)) &&& (2147483647 : Int32))
  ) else (
    chk (tein x1 L) <|
    some ((xs x1.toNatClampNeg) &&& (2147483647 : Int32))
  )
noncomputable def hL_put (x2 : Int32) (z0 : aS) (z1 : aS) : Option (Int32 × (aS × aS)) :=
  bd2 (A_tryAppend z0 x2) fun r_1 z0_1 =>
  if r_1 ≤ 0 then (
    some ((0 : Int32), (z0_1, z1))
  ) else (
    bd2 (A_tryAppend z1 x2) fun r_4 z1_2 =>
    if r_4 ≤ 0 then (
      some ((0 : Int32), (z0_1, z1_2))
    ) else (
      some ((1 : Int32), (z0_1, z1_2))
    )
  )
noncomputable def hL_told_259 (L : Nat) (xs : Nat → Int32) (x3 : Int32) (q43 : aS → aS → Int32 → Int32 → Int32 → Option (Int32 × (aS × aS))) (z0 : aS) (z1 : aS) (v4 : Int32) (v6 : Int32) : Option (Int32 × (aS × aS)) :=
  q43 z0 z1 v4 (0 : Int32) (v6 + (1 : Int32))
noncomputable def hL_told_187 (L : Nat) (xs : Nat → Int32) (x3 : Int32) (q43 : aS → aS → Int32 → Int32 → Int32 → Option (Int32 × (aS × aS))) (z0 : aS) (z1 : aS) (v4 : Int32) (v5 : Int32) (v6 : Int32) (v7 : Int32) : Option (Int32 × (aS × aS)) :=
  if v5 = 0 then (
    hL_told_259 L xs x3 q43 z0 z1 v4 v6
  ) else (
    if (A_errorPosition z0) = ((7 : Int32) + ((8 : Int32) * v6)) then (
      bd3 (hL_put ((48 : Int32) + ((v7 / (262144 : Int32)) - (v7 / (262144 : Int32)) / (10 : Int32) * (10 : Int32))) z0 z1) fun r_57 z0_20 z1_21 =>
      if r_57 = 0 then (
        hL_told_259 L xs x3 q43 z0_20 z1_21 v4 v6
      ) else (
        bd3 (hL_put ((48 : Int32) + ((v7 / (4194304 : Int32)) - (v7 / (4194304 : Int32)) / (10 : Int32) * (10 : Int32))) z0_20 z1_21) fun r_60 z0_22 z1_23 =>
        if r_60 = 0 then (
          hL_told_259 L xs x3 q43 z0_22 z1_23 v4 v6
        ) else (
          if (A_errorPosition z0_22) = (-9999 : Int32) then (
            q43 z0_22 z1_23 v4 (1 : Int32) (v6 + (1 : Int32))
          ) else (
            hL_told_259 L xs x3 q43 z0_22 z1_23 v4 v6
          )
        )
      )
    ) else (
      hL_told_259 L xs x3 q43 z0 z1 v4 v6
    )
  )
noncomputable def hL_told_130 (L : Nat) (xs : Nat → Int32) (x3 : Int32) (q43 : aS → aS → Int32 → Int32 → Int32 → Option (Int32 × (aS × aS))) : Nat → aS → aS → Int32 → Int32 → Int32 → Int32 → Int32 → Int32 → Option (Int32 × (aS × aS))
  | 0, _, _, _, _, _, _, _, _ => none
  | n + 1, z0, z1, v4, v5, v6, v7, v8, v9 =>
    if (4 : Int32) ≤ v9 then (
      hL_told_187 L xs x3 q43 z0 z1 v4 v5 v6 v7
    ) else (
      if v5 = 0 then (
        hL_told_187 L xs x3 q43 z0 z1 v4 v5 v6 v7
      ) else (
        if v9 = v8 then (
          bd3 (hL_put ((48 : Int32) + ((v7 / (8 : Int32)) - (v7 / (8 : Int32)) / (4 : Int32) * (4 : Int32))) z0 z1) fun r_53 z0_18 z1_19 =>
          hL_told_130 L xs x3 q43 n z0_18 z1_19 v4 r_53 v6 v7 v8 (v9 + (1 : Int32))
        ) else (
          chk (decide (¬ ((32 : Int32) <<< (((3 : Int32) * v9) &&& 31)) = 0)) <|
          bd3 (hL_put ((48 : Int32) + ((v7 / ((32 : Int32) <<< (((3 : Int32) * v9) &&& 31))) - (v7 / ((32 : Int32) <<< (((3 : Int32) * v9) &&& 31))) / (10 : Int32) * (10 : Int32))) z0 z1) fun r_51 z0_16 z1_17 =>
          hL_told_130 L xs x3 q43 n z0_16 z1_17 v4 r_51 v6 v7 v8 (v9 + (1 : Int32))
        )
      )
    )
noncomputable def hL_told_124 (L : Nat) (xs : Nat → Int32) (x3 : Int32) (q43 : aS → aS → Int32 → Int32 → Int32 → Option (Int32 × (aS × aS))) (z0 : aS) (z1 : aS) (v4 : Int32) (v6 : Int32) (v7 : Int32) (v8 : Int32) : Option (Int32 × (aS × aS)) :=
  hL_told_130 L xs x3 q43 5 z0 z1 v4 (0 : Int32) v6 v7 v8 (0 : Int32)
noncomputable def hL_told_386 (L : Nat) (xs : Nat → Int32) (x3 : Int32) (z0 : aS) (z1 : aS) : Option (Int32 × (aS × aS)) :=
  some ((0 : Int32), (z0, z1))
noncomputable def hL_told_268 (L : Nat) (xs : Nat → Int32) (x3 : Int32) (z0 : aS) (z1 : aS) (v4 : Int32) (v5 : Int32) : Option (Int32 × (aS × aS)) :=
  if v5 = 0 then (
    hL_told_386 L xs x3 z0 z1
  ) else (
    bd2 (A_tryLoad z0) fun r_24 z0_9 =>
    if r_24 = v4 then (
      bd2 (A_tryLoad z1) fun r_27 z1_10 =>
      if r_27 = v4 then (
        if (A_tryAbout z0_9 (0 : Int32)) = v4 then (
          if (A_tryAbout z0_9 (1 : Int32)) = 0 then (
            if (A_tryAbout z0_9 (2 : Int32)) = 0 then (
              if (A_tryMember z0_9 (0 : Int32) (8 : Int32)) = (-9999 : Int32) then (
                bd2 (A_tryUndo z0_9) fun r_34 z0_11 =>
                if r_34 = (-99003 : Int32) then (
                  bd2 (A_tryRestore z1_10 (1 : Int32)) fun r_37 z1_12 =>
                  if r_37 = (-99003 : Int32) then (
                    bd3 (hL_put (120 : Int32) z0_11 z1_12) fun r_40 z0_13 z1_14 =>
                    if r_40 = 0 then (
                      hL_told_386 L xs x3 z0_13 z1_14
                    ) else (
                      if (A_errorPosition z0_13) = ((1 : Int32) + ((8 : Int32) * v4)) then (
                        bd2 (A_tryLoad z0_13) fun r_44 z0_15 =>
                        if r_44 = (-99003 : Int32) then (
                          some ((1 : Int32), (z0_15, z1_14))
                        ) else (
                          hL_told_386 L xs x3 z0_15 z1_14
                        )
                      ) else (
                        hL_told_386 L xs x3 z0_13 z1_14
                      )
                    )
                  ) else (
                    hL_told_386 L xs x3 z0_11 z1_12
                  )
                ) else (
                  hL_told_386 L xs x3 z0_11 z1_10
                )
              ) else (
                hL_told_386 L xs x3 z0_9 z1_10
              )
            ) else (
              hL_told_386 L xs x3 z0_9 z1_10
            )
          ) else (
            hL_told_386 L xs x3 z0_9 z1_10
          )
        ) else (
          hL_told_386 L xs x3 z0_9 z1_10
        )
      ) else (
        hL_told_386 L xs x3 z0_9 z1_10
      )
    ) else (
      hL_told_386 L xs x3 z0_9 z1
    )
  )
noncomputable def hL_told_43 (L : Nat) (xs : Nat → Int32) (x3 : Int32) : Nat → aS → aS → Int32 → Int32 → Int32 → Option (Int32 × (aS × aS))
  | 0, _, _, _, _, _ => none
  | n + 1, z0, z1, v4, v5, v6 =>
    if v4 ≤ v6 then (
      hL_told_268 L xs x3 z0 z1 v4 v5
    ) else (
      if v5 = 0 then (
        hL_told_268 L xs x3 z0 z1 v4 v5
      ) else (
        bd1 (hL_number L xs ((x3 + (1 : Int32)) + v6)) fun r_13 =>
        if (A_errorPosition z0) = (-9999 : Int32) then (
          bd3 (hL_put (109 : Int32) z0 z1) fun r_16 z0_5 z1_6 =>
          if r_16 = 0 then (
            hL_told_124 L xs x3 (hL_told_43 L xs x3 n) z0_5 z1_6 v4 v6 r_13 (r_13 - r_13 / (4 : Int32) * (4 : Int32))
          ) else (
            if (A_errorPosition z0_5) = ((2 : Int32) + ((8 : Int32) * v6)) then (
              bd3 (hL_put ((48 : Int32) + (r_13 - r_13 / (4 : Int32) * (4 : Int32))) z0_5 z1_6) fun r_20 z0_7 z1_8 =>
              if r_20 = 0 then (
                hL_told_124 L xs x3 (hL_told_43 L xs x3 n) z0_7 z1_8 v4 v6 r_13 (r_13 - r_13 / (4 : Int32) * (4 : Int32))
              ) else (
                hL_told_130 L xs x3 (hL_told_43 L xs x3 n) 5 z0_7 z1_8 v4 (1 : Int32) v6 r_13 (r_13 - r_13 / (4 : Int32) * (4 : Int32)) (0 : Int32)
              )
            ) else (
              hL_told_124 L xs x3 (hL_told_43 L xs x3 n) z0_5 z1_6 v4 v6 r_13 (r_13 - r_13 / (4 : Int32) * (4 : Int32))
            )
          )
        ) else (
          hL_told_124 L xs x3 (hL_told_43 L xs x3 n) z0 z1 v4 v6 r_13 (r_13 - r_13 / (4 : Int32) * (4 : Int32))
        )
      )
    )
noncomputable def hL_told (L : Nat) (xs : Nat → Int32) (x3 : Int32) (z0 : aS) (z1 : aS) : Option (Int32 × (aS × aS)) :=
  bd1 (hL_number L xs x3) fun r_1 =>
  bd2 (A_clearText z0) fun r_3 z0_1 =>
  bd2 (A_clearText z1) fun r_5 z1_2 =>
  if r_3 = r_5 then (
    bd3 (hL_put (76 : Int32) z0_1 z1_2) fun r_8 z0_3 z1_4 =>
    if r_8 = 0 then (
      hL_told_43 L xs x3 10 z0_3 z1_4 ((3 : Int32) + (r_1 - r_1 / (7 : Int32) * (7 : Int32))) (0 : Int32) (0 : Int32)
    ) else (
      hL_told_43 L xs x3 10 z0_3 z1_4 ((3 : Int32) + (r_1 - r_1 / (7 : Int32) * (7 : Int32))) (1 : Int32) (0 : Int32)
    )
  ) else (
    hL_told_43 L xs x3 10 z0_1 z1_2 ((3 : Int32) + (r_1 - r_1 / (7 : Int32) * (7 : Int32))) (0 : Int32) (0 : Int32)
  )
noncomputable def hL_alike_57 (z0 : aS) (z1 : aS) (q41 : Int32 → Int32 → Option Int32) : Nat → Int32 → Int32 → Int32 → Option Int32
  | 0, _, _, _ => none
  | n + 1, v2, v3, v4 =>
    if (11 : Int32) ≤ v4 then (
      q41 v2 (v3 + (1 : Int32))
    ) else (
      if v2 = 0 then (
        hL_alike_57 z0 z1 q41 n (0 : Int32) v3 (v4 + (1 : Int32))
      ) else (
        if (A_tryMember z0 v3 v4) = (A_tryMember z1 v3 v4) then (
          hL_alike_57 z0 z1 q41 n (1 : Int32) v3 (v4 + (1 : Int32))
        ) else (
          hL_alike_57 z0 z1 q41 n (0 : Int32) v3 (v4 + (1 : Int32))
        )
      )
    )
noncomputable def hL_alike_41 (z0 : aS) (z1 : aS) : Nat → Int32 → Int32 → Option Int32
  | 0, _, _ => none
  | n + 1, v2, v3 =>
    if (A_tryAbout z0 (0 : Int32)) ≤ v3 then (
      chk (decide (v2 &&& 1 = v2)) <|
      some v2
    ) else (
      if v2 = 0 then (
        chk (decide (v2 &&& 1 = v2)) <|
        some v2
      ) else (
        hL_alike_57 z0 z1 (hL_alike_41 z0 z1 n) 12 v2 v3 (0 : Int32)
      )
    )
noncomputable def hL_alike_4 (z0 : aS) (z1 : aS) : Nat → Int32 → Int32 → Option Int32
  | 0, _, _ => none
  | n + 1, v2, v3 =>
    if (7 : Int32) ≤ v3 then (
      hL_alike_41 z0 z1 10 v2 (0 : Int32)
    ) else (
      if v2 = 0 then (
        hL_alike_4 z0 z1 n (0 : Int32) (v3 + (1 : Int32))
      ) else (
        if (A_tryAbout z0 v3) = (A_tryAbout z1 v3) then (
          hL_alike_4 z0 z1 n (1 : Int32) (v3 + (1 : Int32))
        ) else (
          hL_alike_4 z0 z1 n (0 : Int32) (v3 + (1 : Int32))
        )
      )
    )
noncomputable def hL_alike (z0 : aS) (z1 : aS) : Option Int32 :=
  hL_alike_4 z0 z1 8 (1 : Int32) (0 : Int32)
noncomputable def hL_refuses_584 (z0 : aS) : Option (Int32 × aS) :=
  some ((0 : Int32), z0)
noncomputable def hL_refuses_490 (z0 : aS) (v1 : Int32) : Option (Int32 × aS) :=
  if (A_tryLevelAfter z0 v1 (0 : Int32)) = (-99001 : Int32) then (
    if (A_tryPartsAfter z0 v1 (0 : Int32)) = (-99001 : Int32) then (
      if (A_tryScript z0 (5 : Int32) (0 : Int64)) = (-99002 : Int32) then (
        if (A_tryScript z0 (1 : Int32) (10000 : Int64)) = (-99002 : Int32) then (
          if (A_trySimulate z0 (1 : Int64) (61 : Int32)) = (-99002 : Int32) then (
            bd2 (A_trySave z0 (2 : Int32)) fun r_37 z0_4 =>
            if r_37 = (-99001 : Int32) then (
              bd2 (A_tryRestore z0_4 (-1 : Int32)) fun r_40 z0_5 =>
              if r_40 = (-99001 : Int32) then (
                bd2 (A_tryAppend z0_5 (256 : Int32)) fun r_43 z0_6 =>
                if r_43 = (-99002 : Int32) then (
                  some ((1 : Int32), z0_6)
                ) else (
                  hL_refuses_584 z0_6
                )
              ) else (
                hL_refuses_584 z0_5
              )
            ) else (
              hL_refuses_584 z0_4
            )
          ) else (
            hL_refuses_584 z0
          )
        ) else (
          hL_refuses_584 z0
        )
      ) else (
        hL_refuses_584 z0
      )
    ) else (
      hL_refuses_584 z0
    )
  ) else (
    hL_refuses_584 z0
  )
noncomputable def hL_refuses_333 (z0 : aS) (v1 : Int32) (y0 : Int32) : Option (Int32 × aS) :=
  if y0 = 0 then (
    hL_refuses_584 z0
  ) else (
    bd2 (A_trySettle z0 (0 : Int32)) fun r_11 z0_1 =>
    if r_11 = (-99002 : Int32) then (
      bd2 (A_trySettle z0_1 (51 : Int32)) fun r_14 z0_2 =>
      if r_14 = (-99002 : Int32) then (
        bd2 (A_tryWeek z0_2 (512 : Int32)) fun r_17 z0_3 =>
        if r_17 = (-99002 : Int32) then (
          if (A_tryBlocking z0_3 (-1 : Int32) (1 : Int32)) = (-99002 : Int32) then (
            if (A_tryBestPartner z0_3 v1 (1 : Int32)) = (-99001 : Int32) then (
              if (A_tryBest z0_3 (2 : Int32)) = (-99002 : Int32) then (
                if (A_tryAhead z0_3 v1 (61 : Int32) (512 : Int32) (11 : Int32)) = (-99001 : Int32) then (
                  if v1 = 0 then (
                    hL_refuses_490 z0_3 v1
                  ) else (
                    if (A_tryAhead z0_3 (0 : Int32) (61 : Int32) (0 : Int32) (0 : Int32)) = (-99002 : Int32) then (
                      if (A_tryAhead z0_3 (0 : Int32) (0 : Int32) (512 : Int32) (0 : Int32)) = (-99002 : Int32) then (
                        if (A_tryAhead z0_3 (0 : Int32) (0 : Int32) (0 : Int32) (11 : Int32)) = (-99002 : Int32) then (
                          if (A_tryLevelAfter z0_3 (0 : Int32) (10 : Int32)) = (-99002 : Int32) then (
                            if (A_tryPartsAfter z0_3 (0 : Int32) (-1 : Int32)) = (-99002 : Int32) then (
                              hL_refuses_490 z0_3 v1
                            ) else (
                              hL_refuses_584 z0_3
                            )
                          ) else (
                            hL_refuses_584 z0_3
                          )
                        ) else (
                          hL_refuses_584 z0_3
                        )
                      ) else (
                        hL_refuses_584 z0_3
                      )
                    ) else (
                      hL_refuses_584 z0_3
                    )
                  )
                ) else (
                  hL_refuses_584 z0_3
                )
              ) else (
                hL_refuses_584 z0_3
              )
            ) else (
              hL_refuses_584 z0_3
            )
          ) else (
            hL_refuses_584 z0_3
          )
        ) else (
          hL_refuses_584 z0_3
        )
      ) else (
        hL_refuses_584 z0_2
      )
    ) else (
      hL_refuses_584 z0_1
    )
  )
noncomputable def hL_refuses_332 (z0 : aS) (v1 : Int32) : Option (Int32 × aS) :=
  hL_refuses_333 z0 v1 (0 : Int32)
noncomputable def hL_refuses_289 (z0 : aS) (v1 : Int32) (v2 : Int32) : Option (Int32 × aS) :=
  bd2 (A_tryPart z0 v1) fun r_90 z0_20 =>
  if r_90 = (-99001 : Int32) then (
    if v1 = 0 then (
      hL_refuses_333 z0_20 v1 (1 : Int32)
    ) else (
      if v2 = 0 then (
        bd2 (A_tryPart z0_20 (0 : Int32)) fun r_95 z0_21 =>
        if r_95 = (-99003 : Int32) then (
          if (A_tryPartsAfter z0_21 (0 : Int32) (0 : Int32)) = (-99003 : Int32) then (
            hL_refuses_333 z0_21 v1 (1 : Int32)
          ) else (
            hL_refuses_332 z0_21 v1
          )
        ) else (
          hL_refuses_332 z0_21 v1
        )
      ) else (
        hL_refuses_333 z0_20 v1 (1 : Int32)
      )
    )
  ) else (
    hL_refuses_332 z0_20 v1
  )
noncomputable def hL_refuses_258 (z0 : aS) (v1 : Int32) (v2 : Int32) : Option (Int32 × aS) :=
  bd2 (A_tryPair z0 (0 : Int32) v1) fun r_82 z0_18 =>
  if r_82 = (-99001 : Int32) then (
    if v1 < (2 : Int32) then (
      hL_refuses_289 z0_18 v1 v2
    ) else (
      if v2 = 0 then (
        hL_refuses_289 z0_18 v1 v2
      ) else (
        bd2 (A_tryPair z0_18 (0 : Int32) (1 : Int32)) fun r_87 z0_19 =>
        if r_87 = (-99003 : Int32) then (
          hL_refuses_289 z0_19 v1 v2
        ) else (
          hL_refuses_332 z0_19 v1
        )
      )
    )
  ) else (
    hL_refuses_332 z0_18 v1
  )
noncomputable def hL_refuses_206 (z0 : aS) (v1 : Int32) (v2 : Int32) : Option (Int32 × aS) :=
  bd2 (A_tryTest z0 v1 (4 : Int32) (0 : Int32)) fun r_69 z0_14 =>
  if r_69 = (-99001 : Int32) then (
    if v1 = 0 then (
      hL_refuses_258 z0_14 v1 v2
    ) else (
      bd2 (A_tryTest z0_14 (0 : Int32) (4 : Int32) (0 : Int32)) fun r_73 z0_15 =>
      if r_73 = (-99002 : Int32) then (
        bd2 (A_tryTest z0_15 (0 : Int32) (0 : Int32) (100 : Int32)) fun r_76 z0_16 =>
        if r_76 = (-99002 : Int32) then (
          bd2 (A_tryPair z0_16 (0 : Int32) (0 : Int32)) fun r_79 z0_17 =>
          if r_79 = (-99002 : Int32) then (
            hL_refuses_258 z0_17 v1 v2
          ) else (
            hL_refuses_332 z0_17 v1
          )
        ) else (
          hL_refuses_332 z0_16 v1
        )
      ) else (
        hL_refuses_332 z0_15 v1
      )
    )
  ) else (
    hL_refuses_332 z0_14 v1
  )
noncomputable def hL_refuses_170 (z0 : aS) (v1 : Int32) (v2 : Int32) : Option (Int32 × aS) :=
  bd2 (A_tryLeave z0 v1) fun r_59 z0_11 =>
  if r_59 = (-99001 : Int32) then (
    bd2 (A_tryWant z0_11 v1 (4 : Int32)) fun r_62 z0_12 =>
    if r_62 = (-99001 : Int32) then (
      if v1 = 0 then (
        hL_refuses_206 z0_12 v1 v2
      ) else (
        bd2 (A_tryWant z0_12 (0 : Int32) (4 : Int32)) fun r_66 z0_13 =>
        if r_66 = (-99002 : Int32) then (
          hL_refuses_206 z0_13 v1 v2
        ) else (
          hL_refuses_332 z0_13 v1
        )
      )
    ) else (
      hL_refuses_332 z0_12 v1
    )
  ) else (
    hL_refuses_332 z0_11 v1
  )
noncomputable def hL_refuses_113 (z0 : aS) (v1 : Int32) (v2 : Int32) : Option (Int32 × aS) :=
  bd2 (A_tryJoin z0 (4 : Int32) (0 : Int32) (0 : Int32)) fun r_46 z0_7 =>
  if r_46 = (-99002 : Int32) then (
    bd2 (A_tryJoin z0_7 (0 : Int32) (10000 : Int32) (0 : Int32)) fun r_49 z0_8 =>
    if r_49 = (-99002 : Int32) then (
      bd2 (A_tryJoin z0_8 (0 : Int32) (0 : Int32) (100 : Int32)) fun r_52 z0_9 =>
      if r_52 = (-99002 : Int32) then (
        if v1 < (9 : Int32) then (
          hL_refuses_170 z0_9 v1 v2
        ) else (
          bd2 (A_tryJoin z0_9 (0 : Int32) (0 : Int32) (0 : Int32)) fun r_56 z0_10 =>
          if r_56 = (-99003 : Int32) then (
            hL_refuses_170 z0_10 v1 v2
          ) else (
            hL_refuses_332 z0_10 v1
          )
        )
      ) else (
        hL_refuses_332 z0_9 v1
      )
    ) else (
      hL_refuses_332 z0_8 v1
    )
  ) else (
    hL_refuses_332 z0_7 v1
  )
noncomputable def hL_refuses_96 (z0 : aS) (v1 : Int32) (v2 : Int32) : Option (Int32 × aS) :=
  if v1 < (2 : Int32) then (
    hL_refuses_113 z0 v1 v2
  ) else (
    if (A_tryBoth z0 (0 : Int32) (1 : Int32) (4 : Int32)) = (-99002 : Int32) then (
      hL_refuses_113 z0 v1 v2
    ) else (
      hL_refuses_332 z0 v1
    )
  )
noncomputable def hL_refuses_68 (z0 : aS) (v1 : Int32) (v2 : Int32) : Option (Int32 × aS) :=
  if (A_tryBoth z0 v1 (0 : Int32) (4 : Int32)) = (-99001 : Int32) then (
    if v1 = 0 then (
      hL_refuses_96 z0 v1 v2
    ) else (
      if (A_tryBoth z0 (0 : Int32) (0 : Int32) (0 : Int32)) = (-99002 : Int32) then (
        hL_refuses_96 z0 v1 v2
      ) else (
        hL_refuses_332 z0 v1
      )
    )
  ) else (
    hL_refuses_332 z0 v1
  )
noncomputable def hL_refuses_28 (z0 : aS) (v1 : Int32) (y0 : Int32) : Option (Int32 × aS) :=
  if (A_tryAbout z0 (7 : Int32)) = (-99002 : Int32) then (
    if (A_tryMember z0 v1 (11 : Int32)) = (-99001 : Int32) then (
      if v1 = 0 then (
        hL_refuses_68 z0 v1 y0
      ) else (
        if (A_tryMember z0 (0 : Int32) (11 : Int32)) = (-99002 : Int32) then (
          hL_refuses_68 z0 v1 y0
        ) else (
          hL_refuses_332 z0 v1
        )
      )
    ) else (
      hL_refuses_332 z0 v1
    )
  ) else (
    hL_refuses_332 z0 v1
  )
noncomputable def hL_refuses (z0 : aS) : Option (Int32 × aS) :=
  if (A_tryAbout z0 (0 : Int32)) ≤ 0 then (
    hL_refuses_28 z0 (A_tryAbout z0 (0 : Int32)) (0 : Int32)
  ) else (
    if (A_tryMember z0 (0 : Int32) (8 : Int32)) = (-9999 : Int32) then (
      hL_refuses_28 z0 (A_tryAbout z0 (0 : Int32)) (0 : Int32)
    ) else (
      hL_refuses_28 z0 (A_tryAbout z0 (0 : Int32)) (1 : Int32)
    )
  )
noncomputable def hL_lead (z0 : aS) (x1 : Int32) (x2 : Int32) : Option Int32 :=
  some ((A_tryMember z0 x2 (A_tryMember z0 x1 (4 : Int32))) - (A_tryMember z0 x1 (A_tryMember z0 x1 (4 : Int32))))
noncomputable def hL_sound_596 (z0 : aS) (q22 : Int32 → Int32 → Int32 → Int32 → Int32 → Int32 → Int32 → Option Int32) (v1 : Int32) (v2 : Int32) (v3 : Int32) (v4 : Int32) (v5 : Int32) (v6 : Int32) (v7 : Int32) (v9 : Int32) : Option Int32 :=
  if v6 = 0 then (
    q22 v1 v2 v3 v4 v5 (0 : Int32) (v7 + (1 : Int32))
  ) else (
    if (A_tryMember z0 v7 (10 : Int32)) = v9 then (
      q22 v1 v2 v3 v4 v5 (1 : Int32) (v7 + (1 : Int32))
    ) else (
      q22 v1 v2 v3 v4 v5 (0 : Int32) (v7 + (1 : Int32))
    )
  )
noncomputable def hL_sound_575 (z0 : aS) (q22 : Int32 → Int32 → Int32 → Int32 → Int32 → Int32 → Int32 → Option Int32) (q175 : Int32 → Int32 → Int32 → Int32 → Int32 → Int32 → Int32 → Int32 → Int32 → Int32 → Option Int32) (v1 : Int32) (v2 : Int32) (v3 : Int32) (v4 : Int32) (v5 : Int32) (v7 : Int32) (v8 : Int32) (v9 : Int32) (v10 : Int32) (v13 : Int32) (y0 : Int32) : Option Int32 :=
  if v13 = 0 then (
    q175 v1 v2 (v3 + (0 : Int32)) v4 v5 y0 v7 v8 v9 (v10 + (1 : Int32))
  ) else (
    q175 v1 v2 (v3 + (1 : Int32)) v4 v5 y0 v7 v8 v9 (v10 + (1 : Int32))
  )
noncomputable def hL_sound_535 (z0 : aS) (q22 : Int32 → Int32 → Int32 → Int32 → Int32 → Int32 → Int32 → Option Int32) (q175 : Int32 → Int32 → Int32 → Int32 → Int32 → Int32 → Int32 → Int32 → Int32 → Int32 → Option Int32) (v1 : Int32) (v2 : Int32) (v3 : Int32) (v5 : Int32) (v6 : Int32) (v7 : Int32) (v8 : Int32) (v9 : Int32) (v10 : Int32) (v13 : Int32) (y0 : Int32) (y1 : Int32) : Option Int32 :=
  if v6 = 0 then (
    hL_sound_575 z0 q22 q175 v1 v2 v3 (y1 + y0) v5 v7 v8 v9 v10 v13 (0 : Int32)
  ) else (
    if v13 = 0 then (
      hL_sound_575 z0 q22 q175 v1 v2 v3 (y1 + y0) v5 v7 v8 v9 v10 v13 (1 : Int32)
    ) else (
      if (A_tryBlocking z0 v3 (0 : Int32)) = v7 then (
        if (A_tryBlocking z0 v3 (1 : Int32)) = v10 then (
          hL_sound_575 z0 q22 q175 v1 v2 v3 (y1 + y0) v5 v7 v8 v9 v10 v13 (1 : Int32)
        ) else (
          hL_sound_575 z0 q22 q175 v1 v2 v3 (y1 + y0) v5 v7 v8 v9 v10 v13 (0 : Int32)
        )
      ) else (
        hL_sound_575 z0 q22 q175 v1 v2 v3 (y1 + y0) v5 v7 v8 v9 v10 v13 (0 : Int32)
      )
    )
  )
noncomputable def hL_sound_496 (z0 : aS) (q22 : Int32 → Int32 → Int32 → Int32 → Int32 → Int32 → Int32 → Option Int32) (q175 : Int32 → Int32 → Int32 → Int32 → Int32 → Int32 → Int32 → Int32 → Int32 → Int32 → Option Int32) (v1 : Int32) (v3 : Int32) (v4 : Int32) (v5 : Int32) (v6 : Int32) (v7 : Int32) (v8 : Int32) (v9 : Int32) (v10 : Int32) (v11 : Int32) (v13 : Int32) (y0 : Int32) (y1 : Int32) : Option Int32 :=
  if v8 = v10 then (
    if v11 = 0 then (
      hL_sound_535 z0 q22 q175 v1 (y1 + y0) v3 (v5 + (A_tryBoth z0 v7 v10 (1 : Int32))) v6 v7 v8 v9 v10 v13 (0 : Int32) v4
    ) else (
      hL_sound_535 z0 q22 q175 v1 (y1 + y0) v3 (v5 + (A_tryBoth z0 v7 v10 (1 : Int32))) v6 v7 v8 v9 v10 v13 (1 : Int32) v4
    )
  ) else (
    if v11 = 0 then (
      hL_sound_535 z0 q22 q175 v1 (y1 + y0) v3 (v5 + (0 : Int32)) v6 v7 v8 v9 v10 v13 (0 : Int32) v4
    ) else (
      hL_sound_535 z0 q22 q175 v1 (y1 + y0) v3 (v5 + (0 : Int32)) v6 v7 v8 v9 v10 v13 (1 : Int32) v4
    )
  )
noncomputable def hL_sound_474 (z0 : aS) (q22 : Int32 → Int32 → Int32 → Int32 → Int32 → Int32 → Int32 → Option Int32) (q175 : Int32 → Int32 → Int32 → Int32 → Int32 → Int32 → Int32 → Int32 → Int32 → Int32 → Option Int32) (v1 : Int32) (v2 : Int32) (v3 : Int32) (v4 : Int32) (v5 : Int32) (v7 : Int32) (v8 : Int32) (v9 : Int32) (v10 : Int32) (v11 : Int32) (v13 : Int32) (y0 : Int32) : Option Int32 :=
  if v10 ≤ v7 then (
    q175 v1 v2 v3 v4 v5 y0 v7 v8 v9 (v10 + (1 : Int32))
  ) else (
    if v8 = v10 then (
      hL_sound_496 z0 q22 q175 v1 v3 v4 v5 y0 v7 v8 v9 v10 v11 v13 (1 : Int32) v2
    ) else (
      hL_sound_496 z0 q22 q175 v1 v3 v4 v5 y0 v7 v8 v9 v10 v11 v13 (0 : Int32) v2
    )
  )
noncomputable def hL_sound_381 (z0 : aS) (q22 : Int32 → Int32 → Int32 → Int32 → Int32 → Int32 → Int32 → Option Int32) (q175 : Int32 → Int32 → Int32 → Int32 → Int32 → Int32 → Int32 → Int32 → Int32 → Int32 → Option Int32) (v1 : Int32) (v2 : Int32) (v3 : Int32) (v4 : Int32) (v5 : Int32) (v7 : Int32) (v8 : Int32) (v9 : Int32) (v10 : Int32) (v11 : Int32) (v12 : Int32) (v13 : Int32) (y0 : Int32) (y1 : Int32) : Option Int32 :=
  if y1 = y0 then (
    if (A_tryMember z0 v10 (6 : Int32)) < ((4 : Int32) * v12) then (
      hL_sound_474 z0 q22 q175 v1 v2 v3 v4 v5 v7 v8 v9 v10 v11 v13 (0 : Int32)
    ) else (
      if (((4 : Int32) * v12) + (4 : Int32)) ≤ (A_tryMember z0 v10 (6 : Int32)) then (
        hL_sound_474 z0 q22 q175 v1 v2 v3 v4 v5 v7 v8 v9 v10 v11 v13 (0 : Int32)
      ) else (
        if (A_tryBoth z0 v7 v10 (1 : Int32)) = ((A_tryBoth z0 v7 v10 (0 : Int32)) + (A_tryBoth z0 v10 v7 (0 : Int32))) then (
          if v13 = 0 then (
            if (A_tryBoth z0 v7 v10 (3 : Int32)) = (0 : Int32) then (
              hL_sound_474 z0 q22 q175 v1 v2 v3 v4 v5 v7 v8 v9 v10 v11 v13 (1 : Int32)
            ) else (
              hL_sound_474 z0 q22 q175 v1 v2 v3 v4 v5 v7 v8 v9 v10 v11 v13 (0 : Int32)
            )
          ) else (
            if (A_tryBoth z0 v7 v10 (3 : Int32)) = (1 : Int32) then (
              hL_sound_474 z0 q22 q175 v1 v2 v3 v4 v5 v7 v8 v9 v10 v11 v13 (1 : Int32)
            ) else (
              hL_sound_474 z0 q22 q175 v1 v2 v3 v4 v5 v7 v8 v9 v10 v11 v13 (0 : Int32)
            )
          )
        ) else (
          hL_sound_474 z0 q22 q175 v1 v2 v3 v4 v5 v7 v8 v9 v10 v11 v13 (0 : Int32)
        )
      )
    )
  ) else (
    hL_sound_474 z0 q22 q175 v1 v2 v3 v4 v5 v7 v8 v9 v10 v11 v13 (0 : Int32)
  )
noncomputable def hL_sound_359 (z0 : aS) (q22 : Int32 → Int32 → Int32 → Int32 → Int32 → Int32 → Int32 → Option Int32) (q175 : Int32 → Int32 → Int32 → Int32 → Int32 → Int32 → Int32 → Int32 → Int32 → Int32 → Option Int32) (v1 : Int32) (v2 : Int32) (v3 : Int32) (v4 : Int32) (v5 : Int32) (v7 : Int32) (v8 : Int32) (v10 : Int32) (v11 : Int32) (v12 : Int32) (v13 : Int32) (y0 : Int32) (y1 : Int32) : Option Int32 :=
  if v11 = 0 then (
    hL_sound_381 z0 q22 q175 v1 v2 v3 v4 v5 v7 v8 (y1 + y0) v10 v11 v12 v13 (0 : Int32) (A_tryBoth z0 v7 v10 (2 : Int32))
  ) else (
    hL_sound_381 z0 q22 q175 v1 v2 v3 v4 v5 v7 v8 (y1 + y0) v10 v11 v12 v13 (1 : Int32) (A_tryBoth z0 v7 v10 (2 : Int32))
  )
noncomputable def hL_sound_344 (z0 : aS) (q22 : Int32 → Int32 → Int32 → Int32 → Int32 → Int32 → Int32 → Option Int32) (q175 : Int32 → Int32 → Int32 → Int32 → Int32 → Int32 → Int32 → Int32 → Int32 → Int32 → Option Int32) (v1 : Int32) (v2 : Int32) (v3 : Int32) (v4 : Int32) (v5 : Int32) (v7 : Int32) (v8 : Int32) (v9 : Int32) (v10 : Int32) (v11 : Int32) (v12 : Int32) : Option Int32 :=
  if v11 = 0 then (
    hL_sound_359 z0 q22 q175 v1 v2 v3 v4 v5 v7 v8 v10 v11 v12 (0 : Int32) (0 : Int32) v9
  ) else (
    hL_sound_359 z0 q22 q175 v1 v2 v3 v4 v5 v7 v8 v10 v11 v12 (0 : Int32) (1 : Int32) v9
  )
noncomputable def hL_sound_340 (z0 : aS) (q22 : Int32 → Int32 → Int32 → Int32 → Int32 → Int32 → Int32 → Option Int32) (q175 : Int32 → Int32 → Int32 → Int32 → Int32 → Int32 → Int32 → Int32 → Int32 → Int32 → Option Int32) (v1 : Int32) (v2 : Int32) (v3 : Int32) (v4 : Int32) (v5 : Int32) (v7 : Int32) (v8 : Int32) (v9 : Int32) (v10 : Int32) (v11 : Int32) (v12 : Int32) : Option Int32 :=
  if v11 = 0 then (
    hL_sound_359 z0 q22 q175 v1 v2 v3 v4 v5 v7 v8 v10 v11 v12 (1 : Int32) (0 : Int32) v9
  ) else (
    hL_sound_359 z0 q22 q175 v1 v2 v3 v4 v5 v7 v8 v10 v11 v12 (1 : Int32) (1 : Int32) v9
  )
noncomputable def hL_sound_299 (z0 : aS) (q22 : Int32 → Int32 → Int32 → Int32 → Int32 → Int32 → Int32 → Option Int32) (q175 : Int32 → Int32 → Int32 → Int32 → Int32 → Int32 → Int32 → Int32 → Int32 → Int32 → Option Int32) (v1 : Int32) (v2 : Int32) (v3 : Int32) (v4 : Int32) (v5 : Int32) (v7 : Int32) (v8 : Int32) (v9 : Int32) (v10 : Int32) (v11 : Int32) (v12 : Int32) : Option Int32 :=
  if (A_tryMember z0 v10 (8 : Int32)) = (-9999 : Int32) then (
    hL_sound_340 z0 q22 q175 v1 v2 v3 v4 v5 v7 v8 v9 v10 v11 v12
  ) else (
    if (A_tryBoth z0 v10 v7 (0 : Int32)) ≤ (A_tryBoth z0 v10 (A_tryMember z0 v10 (8 : Int32)) (0 : Int32)) then (
      hL_sound_344 z0 q22 q175 v1 v2 v3 v4 v5 v7 v8 v9 v10 v11 v12
    ) else (
      hL_sound_340 z0 q22 q175 v1 v2 v3 v4 v5 v7 v8 v9 v10 v11 v12
    )
  )
noncomputable def hL_sound_222 (z0 : aS) (q22 : Int32 → Int32 → Int32 → Int32 → Int32 → Int32 → Int32 → Option Int32) (q175 : Int32 → Int32 → Int32 → Int32 → Int32 → Int32 → Int32 → Int32 → Int32 → Int32 → Option Int32) (v1 : Int32) (v2 : Int32) (v3 : Int32) (v4 : Int32) (v5 : Int32) (v7 : Int32) (v8 : Int32) (v9 : Int32) (v10 : Int32) (y0 : Int32) : Option Int32 :=
  bd1 (hL_lead z0 v7 v10) fun r_39 =>
  if y0 = 0 then (
    hL_sound_344 z0 q22 q175 v1 v2 v3 v4 v5 v7 v8 v9 v10 y0 (((A_tryBoth z0 v7 v10 (0 : Int32)) - ((10 : Int32) * r_39)) + ((5 : Int32) * (A_tryMember z0 v10 (7 : Int32))))
  ) else (
    if v8 = v10 then (
      hL_sound_344 z0 q22 q175 v1 v2 v3 v4 v5 v7 v8 v9 v10 y0 (((A_tryBoth z0 v7 v10 (0 : Int32)) - ((10 : Int32) * r_39)) + ((5 : Int32) * (A_tryMember z0 v10 (7 : Int32))))
    ) else (
      if v8 = (-9999 : Int32) then (
        hL_sound_299 z0 q22 q175 v1 v2 v3 v4 v5 v7 v8 v9 v10 y0 (((A_tryBoth z0 v7 v10 (0 : Int32)) - ((10 : Int32) * r_39)) + ((5 : Int32) * (A_tryMember z0 v10 (7 : Int32))))
      ) else (
        if (A_tryBoth z0 v7 v10 (0 : Int32)) ≤ (A_tryBoth z0 v7 v8 (0 : Int32)) then (
          hL_sound_344 z0 q22 q175 v1 v2 v3 v4 v5 v7 v8 v9 v10 y0 (((A_tryBoth z0 v7 v10 (0 : Int32)) - ((10 : Int32) * r_39)) + ((5 : Int32) * (A_tryMember z0 v10 (7 : Int32))))
        ) else (
          hL_sound_299 z0 q22 q175 v1 v2 v3 v4 v5 v7 v8 v9 v10 y0 (((A_tryBoth z0 v7 v10 (0 : Int32)) - ((10 : Int32) * r_39)) + ((5 : Int32) * (A_tryMember z0 v10 (7 : Int32))))
        )
      )
    )
  )
noncomputable def hL_sound_175 (z0 : aS) (q22 : Int32 → Int32 → Int32 → Int32 → Int32 → Int32 → Int32 → Option Int32) : Nat → Int32 → Int32 → Int32 → Int32 → Int32 → Int32 → Int32 → Int32 → Int32 → Int32 → Option Int32
  | 0, _, _, _, _, _, _, _, _, _, _ => none
  | n + 1, v1, v2, v3, v4, v5, v6, v7, v8, v9, v10 =>
    if v1 ≤ v10 then (
      hL_sound_596 z0 q22 v1 v2 v3 v4 v5 v6 v7 v9
    ) else (
      if v6 = 0 then (
        hL_sound_596 z0 q22 v1 v2 v3 v4 v5 v6 v7 v9
      ) else (
        if v7 = v10 then (
          hL_sound_175 z0 q22 n v1 v2 v3 v4 v5 v6 v7 v8 v9 (v10 + (1 : Int32))
        ) else (
          bd1 (hL_lead z0 v7 v10) fun r_31 =>
          if r_31 ≤ (1 : Int32) then (
            hL_sound_222 z0 q22 (hL_sound_175 z0 q22 n) v1 v2 v3 v4 v5 v7 v8 v9 v10 (0 : Int32)
          ) else (
            bd1 (hL_lead z0 v10 v7) fun r_34 =>
            if r_34 ≤ (1 : Int32) then (
              hL_sound_222 z0 q22 (hL_sound_175 z0 q22 n) v1 v2 v3 v4 v5 v7 v8 v9 v10 (0 : Int32)
            ) else (
              hL_sound_222 z0 q22 (hL_sound_175 z0 q22 n) v1 v2 v3 v4 v5 v7 v8 v9 v10 (1 : Int32)
            )
          )
        )
      )
    )
noncomputable def hL_sound_169 (z0 : aS) (q22 : Int32 → Int32 → Int32 → Int32 → Int32 → Int32 → Int32 → Option Int32) (v1 : Int32) (v2 : Int32) (v3 : Int32) (v4 : Int32) (v5 : Int32) (v7 : Int32) (v8 : Int32) (v9 : Int32) : Option Int32 :=
  hL_sound_175 z0 q22 10 v1 v2 v3 v4 v5 (0 : Int32) v7 v8 v9 (0 : Int32)
noncomputable def hL_sound_153 (z0 : aS) (q22 : Int32 → Int32 → Int32 → Int32 → Int32 → Int32 → Int32 → Option Int32) (v1 : Int32) (v2 : Int32) (v3 : Int32) (v4 : Int32) (v5 : Int32) (v7 : Int32) (v8 : Int32) (v9 : Int32) : Option Int32 :=
  if (20 : Int32) ≤ (A_tryMember z0 v7 (5 : Int32)) then (
    hL_sound_169 z0 q22 v1 v2 v3 v4 v5 v7 v8 v9
  ) else (
    hL_sound_175 z0 q22 10 v1 v2 v3 v4 v5 (1 : Int32) v7 v8 v9 (0 : Int32)
  )
noncomputable def hL_sound_78 (z0 : aS) (q22 : Int32 → Int32 → Int32 → Int32 → Int32 → Int32 → Int32 → Option Int32) (v1 : Int32) (v2 : Int32) (v3 : Int32) (v4 : Int32) (v5 : Int32) (v7 : Int32) (v8 : Int32) (v9 : Int32) (y0 : Int32) (y1 : Int32) : Option Int32 :=
  if y1 = y0 then (
    if v8 = (-9999 : Int32) then (
      hL_sound_153 z0 q22 v1 v2 v3 v4 v5 v7 v8 v9
    ) else (
      if v8 = v7 then (
        hL_sound_169 z0 q22 v1 v2 v3 v4 v5 v7 v8 v9
      ) else (
        if (A_tryMember z0 v8 (8 : Int32)) = v7 then (
          if (A_tryMember z0 v8 (9 : Int32)) = (A_tryMember z0 v7 (9 : Int32)) then (
            if (3 : Int32) ≤ (A_tryMember z0 v7 (9 : Int32)) then (
              hL_sound_169 z0 q22 v1 v2 v3 v4 v5 v7 v8 v9
            ) else (
              if (A_tryBoth z0 v7 v8 (2 : Int32)) = (1 : Int32) then (
                hL_sound_153 z0 q22 v1 v2 v3 v4 v5 v7 v8 v9
              ) else (
                hL_sound_169 z0 q22 v1 v2 v3 v4 v5 v7 v8 v9
              )
            )
          ) else (
            hL_sound_169 z0 q22 v1 v2 v3 v4 v5 v7 v8 v9
          )
        ) else (
          hL_sound_169 z0 q22 v1 v2 v3 v4 v5 v7 v8 v9
        )
      )
    )
  ) else (
    hL_sound_169 z0 q22 v1 v2 v3 v4 v5 v7 v8 v9
  )
noncomputable def hL_sound_59 (z0 : aS) (q22 : Int32 → Int32 → Int32 → Int32 → Int32 → Int32 → Int32 → Option Int32) (v1 : Int32) (v2 : Int32) (v3 : Int32) (v4 : Int32) (v5 : Int32) (v7 : Int32) (v8 : Int32) (v9 : Int32) (y0 : Int32) : Option Int32 :=
  if (A_tryMember z0 v7 (9 : Int32)) = (-9999 : Int32) then (
    hL_sound_78 z0 q22 v1 v2 v3 v4 v5 v7 v8 v9 (1 : Int32) y0
  ) else (
    hL_sound_78 z0 q22 v1 v2 v3 v4 v5 v7 v8 v9 (0 : Int32) y0
  )
noncomputable def hL_sound_754 (z0 : aS) : Option Int32 :=
  some (0 : Int32)
noncomputable def hL_sound_735 (z0 : aS) (v3 : Int32) (y0 : Int32) (y1 : Int32) : Option Int32 :=
  if y1 = y0 then (
    if (A_tryBlocking z0 v3 (0 : Int32)) = (-9999 : Int32) then (
      some (1 : Int32)
    ) else (
      hL_sound_754 z0 
    )
  ) else (
    hL_sound_754 z0 
  )
noncomputable def hL_sound_715 (z0 : aS) (v3 : Int32) (v4 : Int32) (v7 : Int32) : Option Int32 :=
  if v4 = 0 then (
    if v7 = 0 then (
      hL_sound_735 z0 v3 (1 : Int32) (1 : Int32)
    ) else (
      hL_sound_735 z0 v3 (0 : Int32) (1 : Int32)
    )
  ) else (
    if v7 = 0 then (
      hL_sound_735 z0 v3 (1 : Int32) (0 : Int32)
    ) else (
      hL_sound_735 z0 v3 (0 : Int32) (0 : Int32)
    )
  )
noncomputable def hL_sound_627 (z0 : aS) (v1 : Int32) (v2 : Int32) (v3 : Int32) (v4 : Int32) (v5 : Int32) (v6 : Int32) : Option Int32 :=
  if v6 = 0 then (
    hL_sound_754 z0 
  ) else (
    if (A_tryAbout z0 (1 : Int32)) = v2 then (
      if (A_tryAbout z0 (3 : Int32)) = v5 then (
        if (A_tryAbout z0 (4 : Int32)) = v3 then (
          if (A_tryAbout z0 (6 : Int32)) = v4 then (
            if (A_tryBest z0 (0 : Int32)) < v2 then (
              hL_sound_754 z0 
            ) else (
              if v1 < ((2 : Int32) * (A_tryBest z0 (0 : Int32))) then (
                hL_sound_754 z0 
              ) else (
                if v4 < (A_tryBest z0 (0 : Int32)) then (
                  hL_sound_754 z0 
                ) else (
                  if (A_tryBest z0 (0 : Int32)) = v2 then (
                    if (A_tryBest z0 (1 : Int32)) < v5 then (
                      hL_sound_754 z0 
                    ) else (
                      hL_sound_715 z0 v3 v4 (A_tryBest z0 (0 : Int32))
                    )
                  ) else (
                    hL_sound_715 z0 v3 v4 (A_tryBest z0 (0 : Int32))
                  )
                )
              )
            )
          ) else (
            hL_sound_754 z0 
          )
        ) else (
          hL_sound_754 z0 
        )
      ) else (
        hL_sound_754 z0 
      )
    ) else (
      hL_sound_754 z0 
    )
  )
noncomputable def hL_sound_22 (z0 : aS) : Nat → Int32 → Int32 → Int32 → Int32 → Int32 → Int32 → Int32 → Option Int32
  | 0, _, _, _, _, _, _, _ => none
  | n + 1, v1, v2, v3, v4, v5, v6, v7 =>
    if v1 ≤ v7 then (
      hL_sound_627 z0 v1 v2 v3 v4 v5 v6
    ) else (
      if v6 = 0 then (
        hL_sound_627 z0 v1 v2 v3 v4 v5 v6
      ) else (
        if (A_tryMember z0 v7 (8 : Int32)) = (-9999 : Int32) then (
          hL_sound_59 z0 (hL_sound_22 z0 n) v1 v2 v3 v4 v5 v7 (A_tryMember z0 v7 (8 : Int32)) (0 : Int32) (1 : Int32)
        ) else (
          hL_sound_59 z0 (hL_sound_22 z0 n) v1 v2 v3 v4 v5 v7 (A_tryMember z0 v7 (8 : Int32)) (0 : Int32) (0 : Int32)
        )
      )
    )
noncomputable def hL_sound (z0 : aS) : Option Int32 :=
  hL_sound_22 z0 10 (A_tryAbout z0 (0 : Int32)) (0 : Int32) (0 : Int32) (0 : Int32) (0 : Int32) (1 : Int32) (0 : Int32)
noncomputable def hL_weeks_185 (x1 : Int32) (q34 : aS → (Nat → Int32) → Int32 → Int32 → Int32 → Int32 → Option (Int32 × aS)) (z0 : aS) (wf : Nat → Int32) (v2 : Int32) (v3 : Int32) (v4 : Int32) (v6 : Int32) (y0 : Int32) (y1 : Int32) : Option (Int32 × aS) :=
  chk (tein y1 64) <|
  lt1 (upd wf y1.toNatClampNeg y0) fun wf7 =>
  chk (tein (((7 : Int32) * v6) + (6 : Int32)) 64) <|
  lt1 (upd wf7 (((7 : Int32) * v6) + (6 : Int32)).toNatClampNeg (A_tryAhead z0 v6 (1 : Int32) v3 (6 : Int32))) fun wf8 =>
  q34 z0 wf8 v2 v3 v4 (v6 + (1 : Int32))
noncomputable def hL_weeks_715 (x1 : Int32) (q252 : aS → (Nat → Int32) → Int32 → Int32 → Int32 → Int32 → Option (Int32 × aS)) (z0 : aS) (wf : Nat → Int32) (v2 : Int32) (v3 : Int32) (v8 : Int32) : Option (Int32 × aS) :=
  q252 z0 wf v2 v3 (0 : Int32) (v8 + (1 : Int32))
noncomputable def hL_weeks_684 (x1 : Int32) (q252 : aS → (Nat → Int32) → Int32 → Int32 → Int32 → Int32 → Option (Int32 × aS)) (z0 : aS) (wf : Nat → Int32) (v2 : Int32) (v3 : Int32) (v8 : Int32) (v17 : Int32) (v18 : Int32) (y0 : Int32) (y1 : Int32) : Option (Int32 × aS) :=
  if y1 = y0 then (
    if v18 = 0 then (
      if (A_tryMember z0 v8 (9 : Int32)) = (-9999 : Int32) then (
        q252 z0 wf v2 v3 (1 : Int32) (v8 + (1 : Int32))
      ) else (
        hL_weeks_715 x1 q252 z0 wf v2 v3 v8
      )
    ) else (
      if (A_tryMember z0 v8 (9 : Int32)) = v17 then (
        q252 z0 wf v2 v3 (1 : Int32) (v8 + (1 : Int32))
      ) else (
        hL_weeks_715 x1 q252 z0 wf v2 v3 v8
      )
    )
  ) else (
    hL_weeks_715 x1 q252 z0 wf v2 v3 v8
  )
noncomputable def hL_weeks_663 (x1 : Int32) (q252 : aS → (Nat → Int32) → Int32 → Int32 → Int32 → Int32 → Option (Int32 × aS)) (z0 : aS) (wf : Nat → Int32) (v2 : Int32) (v3 : Int32) (v8 : Int32) (v9 : Int32) (v17 : Int32) (v18 : Int32) : Option (Int32 × aS) :=
  if v18 = 0 then (
    hL_weeks_684 x1 q252 z0 wf v2 v3 v8 v17 v18 (-9999 : Int32) (A_tryMember z0 v8 (8 : Int32))
  ) else (
    hL_weeks_684 x1 q252 z0 wf v2 v3 v8 v17 v18 v9 (A_tryMember z0 v8 (8 : Int32))
  )
noncomputable def hL_weeks_640 (x1 : Int32) (q252 : aS → (Nat → Int32) → Int32 → Int32 → Int32 → Int32 → Option (Int32 × aS)) (z0 : aS) (wf : Nat → Int32) (v2 : Int32) (v3 : Int32) (v8 : Int32) (v9 : Int32) (v14 : Int32) (v15 : Int32) (v16 : Int32) (v17 : Int32) (v18 : Int32) (y0 : Int32) (y1 : Int32) (y2 : Int32) : Option (Int32 × aS) :=
  if y2 = (y1 + y0) then (
    if v14 = v15 then (
      hL_weeks_663 x1 q252 z0 wf v2 v3 v8 v9 v17 v18
    ) else (
      if v16 = 0 then (
        hL_weeks_715 x1 q252 z0 wf v2 v3 v8
      ) else (
        if v15 < v14 then (
          hL_weeks_715 x1 q252 z0 wf v2 v3 v8
        ) else (
          hL_weeks_663 x1 q252 z0 wf v2 v3 v8 v9 v17 v18
        )
      )
    )
  ) else (
    hL_weeks_715 x1 q252 z0 wf v2 v3 v8
  )
noncomputable def hL_weeks_573 (x1 : Int32) (q252 : aS → (Nat → Int32) → Int32 → Int32 → Int32 → Int32 → Option (Int32 × aS)) (z0 : aS) (wf : Nat → Int32) (v2 : Int32) (v3 : Int32) (v8 : Int32) (v9 : Int32) (v10 : Int32) (v13 : Int32) (v14 : Int32) (v15 : Int32) (v16 : Int32) (v17 : Int32) (y0 : Int32) : Option (Int32 × aS) :=
  if (A_tryMember z0 v8 (6 : Int32)) = v13 then (
    chk (tein (((7 : Int32) * v8) + (6 : Int32)) 64) <|
    if (wf (((7 : Int32) * v8) + (6 : Int32)).toNatClampNeg) = v13 then (
      chk (tein (((7 : Int32) * v8) + (2 : Int32)) 64) <|
      if v9 = (-9999 : Int32) then (
        hL_weeks_640 x1 q252 z0 wf v2 v3 v8 v9 v14 v15 v16 v17 y0 (0 : Int32) (wf (((7 : Int32) * v8) + (2 : Int32)).toNatClampNeg) (A_tryMember z0 v8 (7 : Int32))
      ) else (
        if v10 = 0 then (
          hL_weeks_640 x1 q252 z0 wf v2 v3 v8 v9 v14 v15 v16 v17 y0 (0 : Int32) (wf (((7 : Int32) * v8) + (2 : Int32)).toNatClampNeg) (A_tryMember z0 v8 (7 : Int32))
        ) else (
          hL_weeks_640 x1 q252 z0 wf v2 v3 v8 v9 v14 v15 v16 v17 y0 (1 : Int32) (wf (((7 : Int32) * v8) + (2 : Int32)).toNatClampNeg) (A_tryMember z0 v8 (7 : Int32))
        )
      )
    ) else (
      hL_weeks_715 x1 q252 z0 wf v2 v3 v8
    )
  ) else (
    hL_weeks_715 x1 q252 z0 wf v2 v3 v8
  )
noncomputable def hL_weeks_539 (x1 : Int32) (q252 : aS → (Nat → Int32) → Int32 → Int32 → Int32 → Int32 → Option (Int32 × aS)) (z0 : aS) (wf : Nat → Int32) (v2 : Int32) (v3 : Int32) (v8 : Int32) (v9 : Int32) (v10 : Int32) (v13 : Int32) (v14 : Int32) (v15 : Int32) (v16 : Int32) (y0 : Int32) : Option (Int32 × aS) :=
  if v9 = (-9999 : Int32) then (
    hL_weeks_573 x1 q252 z0 wf v2 v3 v8 v9 v10 v13 v14 v15 v16 y0 (0 : Int32)
  ) else (
    if (3 : Int32) ≤ y0 then (
      hL_weeks_573 x1 q252 z0 wf v2 v3 v8 v9 v10 v13 v14 v15 v16 y0 (0 : Int32)
    ) else (
      if (A_tryBoth z0 v8 v9 (2 : Int32)) = (1 : Int32) then (
        hL_weeks_573 x1 q252 z0 wf v2 v3 v8 v9 v10 v13 v14 v15 v16 y0 (1 : Int32)
      ) else (
        hL_weeks_573 x1 q252 z0 wf v2 v3 v8 v9 v10 v13 v14 v15 v16 y0 (0 : Int32)
      )
    )
  )
noncomputable def hL_weeks_523 (x1 : Int32) (q252 : aS → (Nat → Int32) → Int32 → Int32 → Int32 → Int32 → Option (Int32 × aS)) (z0 : aS) (wf : Nat → Int32) (v2 : Int32) (v3 : Int32) (v8 : Int32) (v9 : Int32) (v10 : Int32) (v13 : Int32) (v14 : Int32) (v15 : Int32) (v16 : Int32) : Option (Int32 × aS) :=
  chk (tein (((7 : Int32) * v8) + (3 : Int32)) 64) <|
  hL_weeks_539 x1 q252 z0 wf v2 v3 v8 v9 v10 v13 v14 v15 v16 ((wf (((7 : Int32) * v8) + (3 : Int32)).toNatClampNeg) + (1 : Int32))
noncomputable def hL_weeks_486 (x1 : Int32) (q252 : aS → (Nat → Int32) → Int32 → Int32 → Int32 → Int32 → Option (Int32 × aS)) (z0 : aS) (wf : Nat → Int32) (v2 : Int32) (v3 : Int32) (v8 : Int32) (v9 : Int32) (v10 : Int32) (v11 : Int32) (v13 : Int32) (v14 : Int32) (y0 : Int32) : Option (Int32 × aS) :=
  if (A_tryMember z0 v8 (A_tryMember z0 v8 (4 : Int32))) = (9 : Int32) then (
    if v10 = 0 then (
      if v11 = 0 then (
        hL_weeks_539 x1 q252 z0 wf v2 v3 v8 v9 v10 v13 v14 y0 (1 : Int32) (0 : Int32)
      ) else (
        hL_weeks_523 x1 q252 z0 wf v2 v3 v8 v9 v10 v13 v14 y0 (1 : Int32)
      )
    ) else (
      hL_weeks_523 x1 q252 z0 wf v2 v3 v8 v9 v10 v13 v14 y0 (1 : Int32)
    )
  ) else (
    if v10 = 0 then (
      if v11 = 0 then (
        hL_weeks_539 x1 q252 z0 wf v2 v3 v8 v9 v10 v13 v14 y0 (0 : Int32) (0 : Int32)
      ) else (
        hL_weeks_523 x1 q252 z0 wf v2 v3 v8 v9 v10 v13 v14 y0 (0 : Int32)
      )
    ) else (
      hL_weeks_523 x1 q252 z0 wf v2 v3 v8 v9 v10 v13 v14 y0 (0 : Int32)
    )
  )
noncomputable def hL_weeks_413 (x1 : Int32) (q252 : aS → (Nat → Int32) → Int32 → Int32 → Int32 → Int32 → Option (Int32 × aS)) (z0 : aS) (wf : Nat → Int32) (v2 : Int32) (v3 : Int32) (v8 : Int32) (v9 : Int32) (v10 : Int32) (v11 : Int32) (y0 : Int32) : Option (Int32 × aS) :=
  chk (tein (((7 : Int32) * v8) + (4 : Int32)) 64) <|
  if v9 = (-9999 : Int32) then (
    hL_weeks_486 x1 q252 z0 wf v2 v3 v8 v9 v10 v11 y0 (((A_tryMember z0 v8 (5 : Int32)) + ((20 : Int32) * (A_tryMember z0 v8 (A_tryMember z0 v8 (4 : Int32))))) - (wf (((7 : Int32) * v8) + (4 : Int32)).toNatClampNeg)) (0 : Int32)
  ) else (
    if v10 = 0 then (
      if v11 = 0 then (
        chk (tein (((7 : Int32) * v8) + (5 : Int32)) 64) <|
        hL_weeks_486 x1 q252 z0 wf v2 v3 v8 v9 v10 v11 y0 (((A_tryMember z0 v8 (5 : Int32)) + ((20 : Int32) * (A_tryMember z0 v8 (A_tryMember z0 v8 (4 : Int32))))) - (wf (((7 : Int32) * v8) + (4 : Int32)).toNatClampNeg)) ((4 : Int32) + (wf (((7 : Int32) * v8) + (5 : Int32)).toNatClampNeg))
      ) else (
        hL_weeks_486 x1 q252 z0 wf v2 v3 v8 v9 v10 v11 y0 (((A_tryMember z0 v8 (5 : Int32)) + ((20 : Int32) * (A_tryMember z0 v8 (A_tryMember z0 v8 (4 : Int32))))) - (wf (((7 : Int32) * v8) + (4 : Int32)).toNatClampNeg)) (0 : Int32)
      )
    ) else (
      hL_weeks_486 x1 q252 z0 wf v2 v3 v8 v9 v10 v11 y0 (((A_tryMember z0 v8 (5 : Int32)) + ((20 : Int32) * (A_tryMember z0 v8 (A_tryMember z0 v8 (4 : Int32))))) - (wf (((7 : Int32) * v8) + (4 : Int32)).toNatClampNeg)) (0 : Int32)
    )
  )
noncomputable def hL_weeks_352 (x1 : Int32) (q252 : aS → (Nat → Int32) → Int32 → Int32 → Int32 → Int32 → Option (Int32 × aS)) (z0 : aS) (wf : Nat → Int32) (v2 : Int32) (v3 : Int32) (v8 : Int32) (v9 : Int32) (v10 : Int32) (v11 : Int32) (y0 : Int32) : Option (Int32 × aS) :=
  chk (tein (((7 : Int32) * v8) + (1 : Int32)) 64) <|
  if ((wf (((7 : Int32) * v8) + (1 : Int32)).toNatClampNeg) + y0) ≤ (99 : Int32) then (
    if (-99 : Int32) ≤ ((wf (((7 : Int32) * v8) + (1 : Int32)).toNatClampNeg) + y0) then (
      hL_weeks_413 x1 q252 z0 wf v2 v3 v8 v9 v10 v11 ((wf (((7 : Int32) * v8) + (1 : Int32)).toNatClampNeg) + y0)
    ) else (
      hL_weeks_413 x1 q252 z0 wf v2 v3 v8 v9 v10 v11 (-99 : Int32)
    )
  ) else (
    hL_weeks_413 x1 q252 z0 wf v2 v3 v8 v9 v10 v11 (99 : Int32)
  )
noncomputable def hL_weeks_313 (x1 : Int32) (q252 : aS → (Nat → Int32) → Int32 → Int32 → Int32 → Int32 → Option (Int32 × aS)) (z0 : aS) (wf : Nat → Int32) (v2 : Int32) (v3 : Int32) (v8 : Int32) (v9 : Int32) (v10 : Int32) (y0 : Int32) : Option (Int32 × aS) :=
  if v9 = (-9999 : Int32) then (
    hL_weeks_352 x1 q252 z0 wf v2 v3 v8 v9 v10 y0 (0 : Int32)
  ) else (
    if v10 = 0 then (
      if y0 = 0 then (
        hL_weeks_352 x1 q252 z0 wf v2 v3 v8 v9 v10 y0 (1 : Int32)
      ) else (
        if v10 = 0 then (
          hL_weeks_352 x1 q252 z0 wf v2 v3 v8 v9 v10 y0 (2 : Int32)
        ) else (
          hL_weeks_352 x1 q252 z0 wf v2 v3 v8 v9 v10 y0 (-3 : Int32)
        )
      )
    ) else (
      if v10 = 0 then (
        hL_weeks_352 x1 q252 z0 wf v2 v3 v8 v9 v10 y0 (2 : Int32)
      ) else (
        hL_weeks_352 x1 q252 z0 wf v2 v3 v8 v9 v10 y0 (-3 : Int32)
      )
    )
  )
noncomputable def hL_weeks_288 (x1 : Int32) (q252 : aS → (Nat → Int32) → Int32 → Int32 → Int32 → Int32 → Option (Int32 × aS)) (z0 : aS) (wf : Nat → Int32) (v2 : Int32) (v3 : Int32) (v8 : Int32) (v9 : Int32) (y0 : Int32) : Option (Int32 × aS) :=
  if v9 = (-9999 : Int32) then (
    hL_weeks_313 x1 q252 z0 wf v2 v3 v8 v9 y0 (0 : Int32)
  ) else (
    if ((v3 >>> (v9 &&& 31)) &&& (1 : Int32)) = (1 : Int32) then (
      hL_weeks_313 x1 q252 z0 wf v2 v3 v8 v9 y0 (1 : Int32)
    ) else (
      hL_weeks_313 x1 q252 z0 wf v2 v3 v8 v9 y0 (0 : Int32)
    )
  )
noncomputable def hL_weeks_252 (x1 : Int32) : Nat → aS → (Nat → Int32) → Int32 → Int32 → Int32 → Int32 → Option (Int32 × aS)
  | 0, _, _, _, _, _, _ => none
  | n + 1, z0, wf, v2, v3, v7, v8 =>
    if v2 ≤ v8 then (
      chk (decide (v7 &&& 1 = v7)) <|
      some (v7, z0)
    ) else (
      if v7 = 0 then (
        chk (decide (v7 &&& 1 = v7)) <|
        some (v7, z0)
      ) else (
        chk (tein ((7 : Int32) * v8) 64) <|
        if ((v3 >>> (v8 &&& 31)) &&& (1 : Int32)) = (1 : Int32) then (
          hL_weeks_288 x1 (hL_weeks_252 x1 n) z0 wf v2 v3 v8 (wf ((7 : Int32) * v8).toNatClampNeg) (1 : Int32)
        ) else (
          hL_weeks_288 x1 (hL_weeks_252 x1 n) z0 wf v2 v3 v8 (wf ((7 : Int32) * v8).toNatClampNeg) (0 : Int32)
        )
      )
    )
noncomputable def hL_weeks_34 (x1 : Int32) : Nat → aS → (Nat → Int32) → Int32 → Int32 → Int32 → Int32 → Option (Int32 × aS)
  | 0, _, _, _, _, _, _ => none
  | n + 1, z0, wf, v2, v3, v4, v6 =>
    if v2 ≤ v6 then (
      bd2 (A_tryWeek z0 v3) fun r_2 z0_1 =>
      if r_2 = (A_tryAbout z0_1 (1 : Int32)) then (
        if (A_tryAbout z0_1 (2 : Int32)) = (v4 + (1 : Int32)) then (
          hL_weeks_252 x1 10 z0_1 wf v2 v3 (1 : Int32) (0 : Int32)
        ) else (
          hL_weeks_252 x1 10 z0_1 wf v2 v3 (0 : Int32) (0 : Int32)
        )
      ) else (
        hL_weeks_252 x1 10 z0_1 wf v2 v3 (0 : Int32) (0 : Int32)
      )
    ) else (
      chk (tein ((7 : Int32) * v6) 64) <|
      lt1 (upd wf ((7 : Int32) * v6).toNatClampNeg (A_tryMember z0 v6 (8 : Int32))) fun wf2 =>
      chk (tein (((7 : Int32) * v6) + (1 : Int32)) 64) <|
      lt1 (upd wf2 (((7 : Int32) * v6) + (1 : Int32)).toNatClampNeg (A_tryMember z0 v6 (6 : Int32))) fun wf3 =>
      chk (tein (((7 : Int32) * v6) + (2 : Int32)) 64) <|
      lt1 (upd wf3 (((7 : Int32) * v6) + (2 : Int32)).toNatClampNeg (A_tryMember z0 v6 (7 : Int32))) fun wf4 =>
      chk (tein (((7 : Int32) * v6) + (3 : Int32)) 64) <|
      lt1 (upd wf4 (((7 : Int32) * v6) + (3 : Int32)).toNatClampNeg (A_tryMember z0 v6 (9 : Int32))) fun wf5 =>
      chk (tein (((7 : Int32) * v6) + (4 : Int32)) 64) <|
      lt1 (upd wf5 (((7 : Int32) * v6) + (4 : Int32)).toNatClampNeg ((A_tryMember z0 v6 (5 : Int32)) + ((20 : Int32) * (A_tryMember z0 v6 (A_tryMember z0 v6 (4 : Int32)))))) fun wf6 =>
      if (wf6 ((7 : Int32) * v6).toNatClampNeg) = (-9999 : Int32) then (
        hL_weeks_185 x1 (hL_weeks_34 x1 n) z0 wf6 v2 v3 v4 v6 (0 : Int32) (((7 : Int32) * v6) + (5 : Int32))
      ) else (
        bd1 (hL_lead z0 v6 (wf6 ((7 : Int32) * v6).toNatClampNeg)) fun r_12 =>
        hL_weeks_185 x1 (hL_weeks_34 x1 n) z0 wf6 v2 v3 v4 v6 r_12 (((7 : Int32) * v6) + (5 : Int32))
      )
    )
noncomputable def hL_weeks (x1 : Int32) (z0 : aS) : Option (Int32 × aS) :=
  lt1 (fun _ => (0 : Int32)) fun wf0 =>
  hL_weeks_34 x1 10 z0 wf0 (A_tryAbout z0 (0 : Int32)) ((x1 - x1 / (512 : Int32) * (512 : Int32)) &&& (x1 / (512 : Int32))) (A_tryAbout z0 (2 : Int32)) (0 : Int32)
noncomputable def hL_hands_1142 (x1 : Int32) (q1089 : aS → Int32 → Int32 → Int32 → Int32 → Int32 → Int32 → Option (Int32 × aS)) (z0 : aS) (v3 : Int32) (v4 : Int32) (v21 : Int32) (v22 : Int32) (v24 : Int32) : Option (Int32 × aS) :=
  q1089 z0 v3 v4 (0 : Int32) v21 v22 (v24 + (1 : Int32))
noncomputable def hL_hands_1190 (x1 : Int32) (z0 : aS) (v3 : Int32) (v6 : Int32) : Option (Int32 × aS) :=
  if v6 = 0 then (
    some ((0 : Int32), z0)
  ) else (
    bd2 (A_tryRestore z0 (0 : Int32)) fun r_133 z0_18 =>
    if r_133 = v3 then (
      bd2 (A_tryUndo z0_18) fun r_136 z0_19 =>
      if r_136 = (-99003 : Int32) then (
        some ((1 : Int32), z0_19)
      ) else (
        some ((0 : Int32), z0_19)
      )
    ) else (
      some ((0 : Int32), z0_18)
    )
  )
noncomputable def hL_hands_1089 (x1 : Int32) : Nat → aS → Int32 → Int32 → Int32 → Int32 → Int32 → Int32 → Option (Int32 × aS)
  | 0, _, _, _, _, _, _, _ => none
  | n + 1, z0, v3, v4, v6, v21, v22, v24 =>
    if v22 ≤ v24 then (
      if v6 = 0 then (
        hL_hands_1190 x1 z0 v3 (0 : Int32)
      ) else (
        if (A_tryMember z0 v4 (A_tryMember z0 v4 (4 : Int32))) < v21 then (
          hL_hands_1190 x1 z0 v3 (0 : Int32)
        ) else (
          bd2 (A_tryRestore z0 (0 : Int32)) fun r_142 z0_20 =>
          if r_142 = v3 then (
            hL_hands_1190 x1 z0_20 v3 (1 : Int32)
          ) else (
            hL_hands_1190 x1 z0_20 v3 (0 : Int32)
          )
        )
      )
    ) else (
      bd2 (A_match z0) fun r_145 z0_21 =>
      if v6 = 0 then (
        hL_hands_1142 x1 (hL_hands_1089 x1 n) z0_21 v3 v4 v21 v22 v24
      ) else (
        if r_145 < 0 then (
          hL_hands_1142 x1 (hL_hands_1089 x1 n) z0_21 v3 v4 v21 v22 v24
        ) else (
          if v21 ≤ (A_tryMember z0_21 v4 (A_tryMember z0_21 v4 (4 : Int32))) then (
            hL_hands_1142 x1 (hL_hands_1089 x1 n) z0_21 v3 v4 v21 v22 v24
          ) else (
            bd2 (A_tryWeek z0_21 (0 : Int32)) fun r_150 z0_22 =>
            if r_150 < 0 then (
              hL_hands_1142 x1 (hL_hands_1089 x1 n) z0_22 v3 v4 v21 v22 v24
            ) else (
              hL_hands_1089 x1 n z0_22 v3 v4 (1 : Int32) v21 v22 (v24 + (1 : Int32))
            )
          )
        )
      )
    )
noncomputable def hL_hands_1067 (x1 : Int32) (z0 : aS) (v3 : Int32) (v4 : Int32) (v21 : Int32) (v22 : Int32) (y0 : Int32) : Option (Int32 × aS) :=
  if v22 ≤ 0 then (
    hL_hands_1190 x1 z0 v3 y0
  ) else (
    if (20 : Int32) ≤ v22 then (
      hL_hands_1190 x1 z0 v3 y0
    ) else (
      if y0 = 0 then (
        hL_hands_1190 x1 z0 v3 y0
      ) else (
        hL_hands_1089 x1 20 z0 v3 v4 y0 v21 v22 (0 : Int32)
      )
    )
  )
noncomputable def hL_hands_1045 (x1 : Int32) (z0 : aS) (v3 : Int32) (v4 : Int32) (v14 : Int32) (v21 : Int32) (v22 : Int32) : Option (Int32 × aS) :=
  if (A_tryAhead z0 v4 (0 : Int32) (511 : Int32) (6 : Int32)) = v14 then (
    hL_hands_1067 x1 z0 v3 v4 v21 v22 (1 : Int32)
  ) else (
    hL_hands_1067 x1 z0 v3 v4 v21 v22 (0 : Int32)
  )
noncomputable def hL_hands_1027 (x1 : Int32) (z0 : aS) (v3 : Int32) (v4 : Int32) (v14 : Int32) (v21 : Int32) (v22 : Int32) (v23 : Int32) (y0 : Int32) (y1 : Int32) : Option (Int32 × aS) :=
  if y1 = y0 then (
    if v22 = (-9999 : Int32) then (
      if v21 ≤ v23 then (
        hL_hands_1067 x1 z0 v3 v4 v21 v22 (0 : Int32)
      ) else (
        hL_hands_1045 x1 z0 v3 v4 v14 v21 v22
      )
    ) else (
      hL_hands_1045 x1 z0 v3 v4 v14 v21 v22
    )
  ) else (
    hL_hands_1067 x1 z0 v3 v4 v21 v22 (0 : Int32)
  )
noncomputable def hL_hands_966 (x1 : Int32) (z0 : aS) (v3 : Int32) (v4 : Int32) (v6 : Int32) (v14 : Int32) : Option (Int32 × aS) :=
  if v6 = 0 then (
    hL_hands_1067 x1 z0 v3 v4 ((x1 / (64 : Int32)) - (x1 / (64 : Int32)) / (10 : Int32) * (10 : Int32)) (A_tryLevelAfter z0 v4 ((x1 / (64 : Int32)) - (x1 / (64 : Int32)) / (10 : Int32) * (10 : Int32))) (0 : Int32)
  ) else (
    if (A_tryLevelAfter z0 v4 ((x1 / (64 : Int32)) - (x1 / (64 : Int32)) / (10 : Int32) * (10 : Int32))) = 0 then (
      if (A_tryMember z0 v4 (A_tryMember z0 v4 (4 : Int32))) < ((x1 / (64 : Int32)) - (x1 / (64 : Int32)) / (10 : Int32) * (10 : Int32)) then (
        hL_hands_1027 x1 z0 v3 v4 v14 ((x1 / (64 : Int32)) - (x1 / (64 : Int32)) / (10 : Int32) * (10 : Int32)) (A_tryLevelAfter z0 v4 ((x1 / (64 : Int32)) - (x1 / (64 : Int32)) / (10 : Int32) * (10 : Int32))) (A_tryMember z0 v4 (A_tryMember z0 v4 (4 : Int32))) (0 : Int32) (1 : Int32)
      ) else (
        hL_hands_1027 x1 z0 v3 v4 v14 ((x1 / (64 : Int32)) - (x1 / (64 : Int32)) / (10 : Int32) * (10 : Int32)) (A_tryLevelAfter z0 v4 ((x1 / (64 : Int32)) - (x1 / (64 : Int32)) / (10 : Int32) * (10 : Int32))) (A_tryMember z0 v4 (A_tryMember z0 v4 (4 : Int32))) (1 : Int32) (1 : Int32)
      )
    ) else (
      if (A_tryMember z0 v4 (A_tryMember z0 v4 (4 : Int32))) < ((x1 / (64 : Int32)) - (x1 / (64 : Int32)) / (10 : Int32) * (10 : Int32)) then (
        hL_hands_1027 x1 z0 v3 v4 v14 ((x1 / (64 : Int32)) - (x1 / (64 : Int32)) / (10 : Int32) * (10 : Int32)) (A_tryLevelAfter z0 v4 ((x1 / (64 : Int32)) - (x1 / (64 : Int32)) / (10 : Int32) * (10 : Int32))) (A_tryMember z0 v4 (A_tryMember z0 v4 (4 : Int32))) (0 : Int32) (0 : Int32)
      ) else (
        hL_hands_1027 x1 z0 v3 v4 v14 ((x1 / (64 : Int32)) - (x1 / (64 : Int32)) / (10 : Int32) * (10 : Int32)) (A_tryLevelAfter z0 v4 ((x1 / (64 : Int32)) - (x1 / (64 : Int32)) / (10 : Int32) * (10 : Int32))) (A_tryMember z0 v4 (A_tryMember z0 v4 (4 : Int32))) (1 : Int32) (0 : Int32)
      )
    )
  )
noncomputable def hL_hands_963 (x1 : Int32) (z0 : aS) (v3 : Int32) (v4 : Int32) (v14 : Int32) : Option (Int32 × aS) :=
  hL_hands_966 x1 z0 v3 v4 (0 : Int32) v14
noncomputable def hL_hands_868 (x1 : Int32) (z0 : aS) (v3 : Int32) (v4 : Int32) (v14 : Int32) (v19 : Int32) : Option (Int32 × aS) :=
  bd2 (A_tryPart z0 v4) fun r_113 z0_15 =>
  if r_113 = v19 then (
    if (A_tryMember z0_15 v4 (8 : Int32)) = (-9999 : Int32) then (
      if (A_tryMember z0_15 v19 (8 : Int32)) = (-9999 : Int32) then (
        if (A_tryBoth z0_15 v4 v19 (3 : Int32)) < 0 then (
          hL_hands_963 x1 z0_15 v3 v4 v14
        ) else (
          bd2 (A_tryPair z0_15 v4 v19) fun r_119 z0_16 =>
          if r_119 = (A_tryBoth z0_16 v4 v19 (1 : Int32)) then (
            if (A_tryMember z0_16 v4 (9 : Int32)) = 0 then (
              bd2 (A_tryRestore z0_16 (0 : Int32)) fun r_123 z0_17 =>
              if r_123 = v3 then (
                hL_hands_966 x1 z0_17 v3 v4 (1 : Int32) v14
              ) else (
                hL_hands_963 x1 z0_17 v3 v4 v14
              )
            ) else (
              hL_hands_963 x1 z0_16 v3 v4 v14
            )
          ) else (
            hL_hands_963 x1 z0_16 v3 v4 v14
          )
        )
      ) else (
        hL_hands_963 x1 z0_15 v3 v4 v14
      )
    ) else (
      hL_hands_963 x1 z0_15 v3 v4 v14
    )
  ) else (
    hL_hands_963 x1 z0_15 v3 v4 v14
  )
noncomputable def hL_hands_762 (x1 : Int32) (z0 : aS) (v3 : Int32) (v4 : Int32) (v6 : Int32) (v14 : Int32) : Option (Int32 × aS) :=
  if (A_tryMember z0 v4 (8 : Int32)) = (-9999 : Int32) then (
    hL_hands_966 x1 z0 v3 v4 v6 v14
  ) else (
    if v6 = 0 then (
      hL_hands_966 x1 z0 v3 v4 v6 v14
    ) else (
      if (A_tryPartsAfter z0 v4 ((x1 / (32 : Int32)) - (x1 / (32 : Int32)) / (512 : Int32) * (512 : Int32))) = 0 then (
        hL_hands_963 x1 z0 v3 v4 v14
      ) else (
        if (A_tryPartsAfter z0 v4 ((x1 / (32 : Int32)) - (x1 / (32 : Int32)) / (512 : Int32) * (512 : Int32))) = (-9999 : Int32) then (
          hL_hands_868 x1 z0 v3 v4 v14 (A_tryMember z0 v4 (8 : Int32))
        ) else (
          if (60 : Int32) < (A_tryPartsAfter z0 v4 ((x1 / (32 : Int32)) - (x1 / (32 : Int32)) / (512 : Int32) * (512 : Int32))) then (
            hL_hands_868 x1 z0 v3 v4 v14 (A_tryMember z0 v4 (8 : Int32))
          ) else (
            if (A_tryAhead z0 v4 (A_tryPartsAfter z0 v4 ((x1 / (32 : Int32)) - (x1 / (32 : Int32)) / (512 : Int32) * (512 : Int32))) ((x1 / (32 : Int32)) - (x1 / (32 : Int32)) / (512 : Int32) * (512 : Int32)) (8 : Int32)) = (-9999 : Int32) then (
              if (A_tryPartsAfter z0 v4 ((x1 / (32 : Int32)) - (x1 / (32 : Int32)) / (512 : Int32) * (512 : Int32))) = (1 : Int32) then (
                hL_hands_868 x1 z0 v3 v4 v14 (A_tryMember z0 v4 (8 : Int32))
              ) else (
                if (A_tryAhead z0 v4 ((A_tryPartsAfter z0 v4 ((x1 / (32 : Int32)) - (x1 / (32 : Int32)) / (512 : Int32) * (512 : Int32))) - (1 : Int32)) ((x1 / (32 : Int32)) - (x1 / (32 : Int32)) / (512 : Int32) * (512 : Int32)) (8 : Int32)) = (A_tryMember z0 v4 (8 : Int32)) then (
                  hL_hands_868 x1 z0 v3 v4 v14 (A_tryMember z0 v4 (8 : Int32))
                ) else (
                  hL_hands_963 x1 z0 v3 v4 v14
                )
              )
            ) else (
              hL_hands_963 x1 z0 v3 v4 v14
            )
          )
        )
      )
    )
  )
noncomputable def hL_hands_749 (x1 : Int32) (q657 : aS → Int32 → Int32 → Int32 → Int32 → Int32 → Int32 → Int32 → Option (Int32 × aS)) (z0 : aS) (v2 : Int32) (v3 : Int32) (v4 : Int32) (v14 : Int32) (v17 : Int32) (v19 : Int32) : Option (Int32 × aS) :=
  q657 z0 v2 v3 v4 (1 : Int32) v14 v17 (v19 + (1 : Int32))
noncomputable def hL_hands_693 (x1 : Int32) (q657 : aS → Int32 → Int32 → Int32 → Int32 → Int32 → Int32 → Int32 → Option (Int32 × aS)) (z0 : aS) (v2 : Int32) (v3 : Int32) (v4 : Int32) (v14 : Int32) (v17 : Int32) (v19 : Int32) (y0 : Int32) : Option (Int32 × aS) :=
  if y0 = 0 then (
    hL_hands_749 x1 q657 z0 v2 v3 v4 v14 v17 v19
  ) else (
    if (A_tryBoth z0 v4 v19 (0 : Int32)) < (A_tryBoth z0 v4 v17 (0 : Int32)) then (
      hL_hands_749 x1 q657 z0 v2 v3 v4 v14 v17 v19
    ) else (
      if (A_tryBoth z0 v4 v19 (0 : Int32)) = (A_tryBoth z0 v4 v17 (0 : Int32)) then (
        if v19 < v17 then (
          q657 z0 v2 v3 v4 (0 : Int32) v14 v17 (v19 + (1 : Int32))
        ) else (
          hL_hands_749 x1 q657 z0 v2 v3 v4 v14 v17 v19
        )
      ) else (
        q657 z0 v2 v3 v4 (0 : Int32) v14 v17 (v19 + (1 : Int32))
      )
    )
  )
noncomputable def hL_hands_657 (x1 : Int32) : Nat → aS → Int32 → Int32 → Int32 → Int32 → Int32 → Int32 → Int32 → Option (Int32 × aS)
  | 0, _, _, _, _, _, _, _, _ => none
  | n + 1, z0, v2, v3, v4, v6, v14, v17, v19 =>
    if v2 ≤ v19 then (
      hL_hands_762 x1 z0 v3 v4 v6 v14
    ) else (
      if v6 = 0 then (
        hL_hands_762 x1 z0 v3 v4 v6 v14
      ) else (
        if v19 = v4 then (
          hL_hands_693 x1 (hL_hands_657 x1 n) z0 v2 v3 v4 v14 v17 v19 (0 : Int32)
        ) else (
          if (A_tryBoth z0 v4 v19 (2 : Int32)) = (1 : Int32) then (
            hL_hands_693 x1 (hL_hands_657 x1 n) z0 v2 v3 v4 v14 v17 v19 (1 : Int32)
          ) else (
            hL_hands_693 x1 (hL_hands_657 x1 n) z0 v2 v3 v4 v14 v17 v19 (0 : Int32)
          )
        )
      )
    )
noncomputable def hL_hands_651 (x1 : Int32) (z0 : aS) (v2 : Int32) (v3 : Int32) (v4 : Int32) (v14 : Int32) (v17 : Int32) : Option (Int32 × aS) :=
  hL_hands_657 x1 10 z0 v2 v3 v4 (0 : Int32) v14 v17 (0 : Int32)
noncomputable def hL_hands_593 (x1 : Int32) (z0 : aS) (v2 : Int32) (v3 : Int32) (v4 : Int32) (v14 : Int32) (v17 : Int32) (v18 : Int32) (y0 : Int32) (y1 : Int32) : Option (Int32 × aS) :=
  if y1 = y0 then (
    if v18 = (-9999 : Int32) then (
      hL_hands_657 x1 10 z0 v2 v3 v4 (1 : Int32) v14 v17 (0 : Int32)
    ) else (
      if v17 = (-9999 : Int32) then (
        hL_hands_651 x1 z0 v2 v3 v4 v14 v17
      ) else (
        if (A_tryMember z0 v18 (8 : Int32)) = (-9999 : Int32) then (
          if (A_tryBoth z0 v4 v17 (0 : Int32)) < (A_tryBoth z0 v4 v18 (0 : Int32)) then (
            hL_hands_651 x1 z0 v2 v3 v4 v14 v17
          ) else (
            hL_hands_657 x1 10 z0 v2 v3 v4 (1 : Int32) v14 v17 (0 : Int32)
          )
        ) else (
          hL_hands_651 x1 z0 v2 v3 v4 v14 v17
        )
      )
    )
  ) else (
    hL_hands_651 x1 z0 v2 v3 v4 v14 v17
  )
noncomputable def hL_hands_539 (x1 : Int32) (z0 : aS) (v2 : Int32) (v3 : Int32) (v4 : Int32) (v14 : Int32) (y0 : Int32) : Option (Int32 × aS) :=
  if y0 = 0 then (
    hL_hands_651 x1 z0 v2 v3 v4 v14 (A_tryBestPartner z0 v4 (0 : Int32))
  ) else (
    if (A_tryBestPartner z0 v4 (0 : Int32)) = (-9999 : Int32) then (
      if (A_tryMember z0 v4 (10 : Int32)) = 0 then (
        hL_hands_593 x1 z0 v2 v3 v4 v14 (A_tryBestPartner z0 v4 (0 : Int32)) (A_tryBestPartner z0 v4 (1 : Int32)) (1 : Int32) (1 : Int32)
      ) else (
        hL_hands_593 x1 z0 v2 v3 v4 v14 (A_tryBestPartner z0 v4 (0 : Int32)) (A_tryBestPartner z0 v4 (1 : Int32)) (0 : Int32) (1 : Int32)
      )
    ) else (
      if (A_tryMember z0 v4 (10 : Int32)) = 0 then (
        hL_hands_593 x1 z0 v2 v3 v4 v14 (A_tryBestPartner z0 v4 (0 : Int32)) (A_tryBestPartner z0 v4 (1 : Int32)) (1 : Int32) (0 : Int32)
      ) else (
        hL_hands_593 x1 z0 v2 v3 v4 v14 (A_tryBestPartner z0 v4 (0 : Int32)) (A_tryBestPartner z0 v4 (1 : Int32)) (0 : Int32) (0 : Int32)
      )
    )
  )
noncomputable def hL_hands_454 (x1 : Int32) (z0 : aS) (v2 : Int32) (v3 : Int32) (v4 : Int32) (v12 : Int32) (v14 : Int32) (y0 : Int32) : Option (Int32 × aS) :=
  if y0 = 0 then (
    hL_hands_539 x1 z0 v2 v3 v4 v14 (0 : Int32)
  ) else (
    bd2 (A_tryRestore z0 (0 : Int32)) fun r_69 z0_11 =>
    if r_69 = v3 then (
      bd2 (A_tryLeave z0_11 v12) fun r_72 z0_12 =>
      if r_72 ≤ (-99003 : Int32) then (
        hL_hands_539 x1 z0_12 v2 v3 v4 v14 (0 : Int32)
      ) else (
        if (A_tryBest z0_12 (0 : Int32)) < (A_tryBest z0 (0 : Int32)) then (
          bd2 (A_tryRestore z0_12 (0 : Int32)) fun r_76 z0_13 =>
          if r_76 = v3 then (
            hL_hands_539 x1 z0_13 v2 v3 v4 v14 (1 : Int32)
          ) else (
            hL_hands_539 x1 z0_13 v2 v3 v4 v14 (0 : Int32)
          )
        ) else (
          if (A_tryBest z0_12 (0 : Int32)) = (A_tryBest z0 (0 : Int32)) then (
            if (A_tryBest z0 (1 : Int32)) < (A_tryBest z0_12 (1 : Int32)) then (
              hL_hands_539 x1 z0_12 v2 v3 v4 v14 (0 : Int32)
            ) else (
              bd2 (A_tryRestore z0_12 (0 : Int32)) fun r_81 z0_14 =>
              if r_81 = v3 then (
                hL_hands_539 x1 z0_14 v2 v3 v4 v14 (1 : Int32)
              ) else (
                hL_hands_539 x1 z0_14 v2 v3 v4 v14 (0 : Int32)
              )
            )
          ) else (
            hL_hands_539 x1 z0_12 v2 v3 v4 v14 (0 : Int32)
          )
        )
      )
    ) else (
      hL_hands_539 x1 z0_11 v2 v3 v4 v14 (0 : Int32)
    )
  )
noncomputable def hL_hands_453 (x1 : Int32) (z0 : aS) (v2 : Int32) (v3 : Int32) (v4 : Int32) (v12 : Int32) (v14 : Int32) : Option (Int32 × aS) :=
  hL_hands_454 x1 z0 v2 v3 v4 v12 v14 (0 : Int32)
noncomputable def hL_hands_321 (x1 : Int32) (z0 : aS) (v2 : Int32) (v3 : Int32) (v4 : Int32) (y0 : Int32) : Option (Int32 × aS) :=
  if y0 = 0 then (
    hL_hands_453 x1 z0 v2 v3 v4 (A_missedMost z0) (A_tryMember z0 v4 (6 : Int32))
  ) else (
    bd2 (A_tryLeave z0 v4) fun r_47 z0_9 =>
    if r_47 = (A_tryMember z0 v4 (6 : Int32)) then (
      if (A_tryAbout z0_9 (0 : Int32)) = (v2 - (1 : Int32)) then (
        if (A_tryAbout z0_9 (5 : Int32)) = ((A_tryAbout z0 (5 : Int32)) - (A_tryMember z0 v4 (6 : Int32))) then (
          if (A_tryBest z0 (0 : Int32)) < (A_tryBest z0_9 (0 : Int32)) then (
            hL_hands_453 x1 z0_9 v2 v3 v4 (A_missedMost z0) (A_tryMember z0 v4 (6 : Int32))
          ) else (
            if (A_tryBest z0_9 (0 : Int32)) < ((A_tryBest z0 (0 : Int32)) - (1 : Int32)) then (
              hL_hands_453 x1 z0_9 v2 v3 v4 (A_missedMost z0) (A_tryMember z0 v4 (6 : Int32))
            ) else (
              if (A_tryBest z0_9 (0 : Int32)) < (A_tryBest z0 (0 : Int32)) then (
                bd1 (hL_sound z0_9) fun r_55 =>
                if r_55 = 0 then (
                  hL_hands_453 x1 z0_9 v2 v3 v4 (A_missedMost z0) (A_tryMember z0 v4 (6 : Int32))
                ) else (
                  hL_hands_454 x1 z0_9 v2 v3 v4 (A_missedMost z0) (A_tryMember z0 v4 (6 : Int32)) (1 : Int32)
                )
              ) else (
                if (A_tryBest z0 (1 : Int32)) < (A_tryBest z0_9 (1 : Int32)) then (
                  hL_hands_453 x1 z0_9 v2 v3 v4 (A_missedMost z0) (A_tryMember z0 v4 (6 : Int32))
                ) else (
                  bd1 (hL_sound z0_9) fun r_59 =>
                  if r_59 = 0 then (
                    hL_hands_453 x1 z0_9 v2 v3 v4 (A_missedMost z0) (A_tryMember z0 v4 (6 : Int32))
                  ) else (
                    hL_hands_454 x1 z0_9 v2 v3 v4 (A_missedMost z0) (A_tryMember z0 v4 (6 : Int32)) (1 : Int32)
                  )
                )
              )
            )
          )
        ) else (
          hL_hands_453 x1 z0_9 v2 v3 v4 (A_missedMost z0) (A_tryMember z0 v4 (6 : Int32))
        )
      ) else (
        hL_hands_453 x1 z0_9 v2 v3 v4 (A_missedMost z0) (A_tryMember z0 v4 (6 : Int32))
      )
    ) else (
      hL_hands_453 x1 z0_9 v2 v3 v4 (A_missedMost z0) (A_tryMember z0 v4 (6 : Int32))
    )
  )
noncomputable def hL_hands_320 (x1 : Int32) (z0 : aS) (v2 : Int32) (v3 : Int32) (v4 : Int32) : Option (Int32 × aS) :=
  hL_hands_321 x1 z0 v2 v3 v4 (0 : Int32)
noncomputable def hL_hands_300 (x1 : Int32) (z0 : aS) (v2 : Int32) (v3 : Int32) (v4 : Int32) : Option (Int32 × aS) :=
  bd1 (hL_sound z0) fun r_62 =>
  if r_62 = 0 then (
    hL_hands_320 x1 z0 v2 v3 v4
  ) else (
    bd2 (A_tryRestore z0 (0 : Int32)) fun r_65 z0_10 =>
    if r_65 = v3 then (
      hL_hands_321 x1 z0_10 v2 v3 v4 (1 : Int32)
    ) else (
      hL_hands_320 x1 z0_10 v2 v3 v4
    )
  )
noncomputable def hL_hands_284 (x1 : Int32) (z0 : aS) (v2 : Int32) (v3 : Int32) (v4 : Int32) : Option (Int32 × aS) :=
  if 0 < (A_tryAbout z0 (4 : Int32)) then (
    hL_hands_300 x1 z0 v2 v3 v4
  ) else (
    bd2 (A_trySettle z0 (1 : Int32)) fun r_43 z0_8 =>
    if r_43 = 0 then (
      hL_hands_300 x1 z0_8 v2 v3 v4
    ) else (
      hL_hands_320 x1 z0_8 v2 v3 v4
    )
  )
noncomputable def hL_hands_231 (x1 : Int32) (z0 : aS) (v2 : Int32) (v3 : Int32) (v4 : Int32) (y0 : Int32) : Option (Int32 × aS) :=
  bd2 (A_trySettle z0 ((1 : Int32) + ((x1 / (16 : Int32)) - (x1 / (16 : Int32)) / (20 : Int32) * (20 : Int32)))) fun r_35 z0_7 =>
  if y0 = 0 then (
    hL_hands_320 x1 z0_7 v2 v3 v4
  ) else (
    if r_35 < 0 then (
      hL_hands_320 x1 z0_7 v2 v3 v4
    ) else (
      if ((1 : Int32) + ((x1 / (16 : Int32)) - (x1 / (16 : Int32)) / (20 : Int32) * (20 : Int32))) < r_35 then (
        hL_hands_320 x1 z0_7 v2 v3 v4
      ) else (
        if r_35 = ((1 : Int32) + ((x1 / (16 : Int32)) - (x1 / (16 : Int32)) / (20 : Int32) * (20 : Int32))) then (
          hL_hands_284 x1 z0_7 v2 v3 v4
        ) else (
          if (A_tryAbout z0_7 (4 : Int32)) = 0 then (
            hL_hands_284 x1 z0_7 v2 v3 v4
          ) else (
            hL_hands_320 x1 z0_7 v2 v3 v4
          )
        )
      )
    )
  )
noncomputable def hL_hands_205 (x1 : Int32) (z0 : aS) (v2 : Int32) (v3 : Int32) (v4 : Int32) (v6 : Int32) : Option (Int32 × aS) :=
  if v6 = 0 then (
    hL_hands_231 x1 z0 v2 v3 v4 (0 : Int32)
  ) else (
    bd2 (A_match z0) fun r_24 z0_5 =>
    if r_24 = 0 then (
      bd2 (A_tryRestore z0_5 (0 : Int32)) fun r_27 z0_6 =>
      if r_27 = v3 then (
        hL_hands_231 x1 z0_6 v2 v3 v4 (1 : Int32)
      ) else (
        hL_hands_231 x1 z0_6 v2 v3 v4 (0 : Int32)
      )
    ) else (
      hL_hands_231 x1 z0_5 v2 v3 v4 (0 : Int32)
    )
  )
noncomputable def hL_hands_186 (x1 : Int32) (q120 : aS → Int32 → Int32 → Int32 → Int32 → Int32 → Option (Int32 × aS)) (q134 : aS → Int32 → Int32 → Int32 → Int32 → Int32 → Int32 → Option (Int32 × aS)) (z0 : aS) (v2 : Int32) (v3 : Int32) (v4 : Int32) (v8 : Int32) (v9 : Int32) : Option (Int32 × aS) :=
  q134 z0 v2 v3 v4 (1 : Int32) v8 (v9 + (1 : Int32))
noncomputable def hL_hands_134 (x1 : Int32) (q120 : aS → Int32 → Int32 → Int32 → Int32 → Int32 → Option (Int32 × aS)) : Nat → aS → Int32 → Int32 → Int32 → Int32 → Int32 → Int32 → Option (Int32 × aS)
  | 0, _, _, _, _, _, _, _ => none
  | n + 1, z0, v2, v3, v4, v6, v8, v9 =>
    if v8 ≤ v9 then (
      q120 z0 v2 v3 v4 v6 (v8 + (1 : Int32))
    ) else (
      if v6 = 0 then (
        q120 z0 v2 v3 v4 v6 (v8 + (1 : Int32))
      ) else (
        if (A_tryMember z0 v8 (8 : Int32)) = (-9999 : Int32) then (
          if (A_tryMember z0 v9 (8 : Int32)) = (-9999 : Int32) then (
            if (A_tryBoth z0 v8 v9 (2 : Int32)) = 0 then (
              hL_hands_186 x1 q120 (hL_hands_134 x1 q120 n) z0 v2 v3 v4 v8 v9
            ) else (
              hL_hands_134 x1 q120 n z0 v2 v3 v4 (0 : Int32) v8 (v9 + (1 : Int32))
            )
          ) else (
            hL_hands_186 x1 q120 (hL_hands_134 x1 q120 n) z0 v2 v3 v4 v8 v9
          )
        ) else (
          hL_hands_186 x1 q120 (hL_hands_134 x1 q120 n) z0 v2 v3 v4 v8 v9
        )
      )
    )
noncomputable def hL_hands_120 (x1 : Int32) : Nat → aS → Int32 → Int32 → Int32 → Int32 → Int32 → Option (Int32 × aS)
  | 0, _, _, _, _, _, _ => none
  | n + 1, z0, v2, v3, v4, v6, v8 =>
    if v2 ≤ v8 then (
      hL_hands_205 x1 z0 v2 v3 v4 v6
    ) else (
      if v6 = 0 then (
        hL_hands_205 x1 z0 v2 v3 v4 v6
      ) else (
        hL_hands_134 x1 (hL_hands_120 x1 n) 10 z0 v2 v3 v4 v6 v8 (0 : Int32)
      )
    )
noncomputable def hL_hands_114 (x1 : Int32) (z0 : aS) (v2 : Int32) (v3 : Int32) (v4 : Int32) : Option (Int32 × aS) :=
  hL_hands_120 x1 10 z0 v2 v3 v4 (0 : Int32) (0 : Int32)
noncomputable def hL_hands_72 (x1 : Int32) (z0 : aS) (v2 : Int32) (v3 : Int32) (v4 : Int32) (v5 : Int32) (y0 : Int32) : Option (Int32 × aS) :=
  bd2 (A_match z0) fun r_13 z0_4 =>
  if y0 = 0 then (
    hL_hands_114 x1 z0_4 v2 v3 v4
  ) else (
    if r_13 < 0 then (
      hL_hands_114 x1 z0_4 v2 v3 v4
    ) else (
      if (A_tryAbout z0_4 (1 : Int32)) = (v5 + r_13) then (
        bd1 (hL_sound z0_4) fun r_18 =>
        if r_18 = 0 then (
          hL_hands_114 x1 z0_4 v2 v3 v4
        ) else (
          hL_hands_120 x1 10 z0_4 v2 v3 v4 (1 : Int32) (0 : Int32)
        )
      ) else (
        hL_hands_114 x1 z0_4 v2 v3 v4
      )
    )
  )
noncomputable def hL_hands (x1 : Int32) (z0 : aS) : Option (Int32 × aS) :=
  if (A_tryAbout z0 (0 : Int32)) = 0 then (
    if (A_missedMost z0) = (-9999 : Int32) then (
      bd2 (A_match z0) fun r_7 z0_2 =>
      if r_7 = 0 then (
        bd2 (A_tryUndo z0_2) fun r_10 z0_3 =>
        if r_10 = 0 then (
          some ((1 : Int32), z0_3)
        ) else (
          some ((0 : Int32), z0_3)
        )
      ) else (
        some ((0 : Int32), z0_2)
      )
    ) else (
      some ((0 : Int32), z0)
    )
  ) else (
    chk (decide (¬ (A_tryAbout z0 (0 : Int32)) = 0)) <|
    bd2 (A_trySave z0 (0 : Int32)) fun r_3 z0_1 =>
    if r_3 = (A_tryAbout z0 (2 : Int32)) then (
      hL_hands_72 x1 z0_1 (A_tryAbout z0 (0 : Int32)) (A_tryAbout z0 (2 : Int32)) (x1 - x1 / (A_tryAbout z0 (0 : Int32)) * (A_tryAbout z0 (0 : Int32))) (A_tryAbout z0 (1 : Int32)) (1 : Int32)
    ) else (
      hL_hands_72 x1 z0_1 (A_tryAbout z0 (0 : Int32)) (A_tryAbout z0 (2 : Int32)) (x1 - x1 / (A_tryAbout z0 (0 : Int32)) * (A_tryAbout z0 (0 : Int32))) (A_tryAbout z0 (1 : Int32)) (0 : Int32)
    )
  )
noncomputable def hL_scripts_564 (z0 : aS) (x1 : Int32) (v2 : Int32) (v5 : Int32) : Option Int32 :=
  if v5 = 0 then (
    some (0 : Int32)
  ) else (
    if v2 = (9 : Int32) then (
      some (1 : Int32)
    ) else (
      if (A_tryScript z0 (1 : Int32) ((2000 : Int64) + ((100 : Int64) * (v2).toInt64))) = 0 then (
        some (1 : Int32)
      ) else (
        some (0 : Int32)
      )
    )
  )
noncomputable def hL_scripts_561 (z0 : aS) (x1 : Int32) (v2 : Int32) : Option Int32 :=
  hL_scripts_564 z0 x1 v2 (0 : Int32)
noncomputable def hL_scripts_519 (z0 : aS) (x1 : Int32) (v2 : Int32) (v6 : Int32) : Option Int32 :=
  if (A_tryScript z0 (1 : Int32) ((1000 : Int64) + ((110 : Int64) * (v6).toInt64))) = 0 then (
    if (A_tryScript z0 (1 : Int32) ((7000 : Int64) + ((110 : Int64) * (v6).toInt64))) = 0 then (
      hL_scripts_564 z0 x1 v2 (1 : Int32)
    ) else (
      hL_scripts_561 z0 x1 v2
    )
  ) else (
    hL_scripts_561 z0 x1 v2
  )
noncomputable def hL_scripts_434 (z0 : aS) (x1 : Int32) (v2 : Int32) (v6 : Int32) (v9 : Int32) (y0 : Int32) (y1 : Int32) : Option Int32 :=
  if y1 = y0 then (
    if v9 = (-9999 : Int32) then (
      hL_scripts_519 z0 x1 v2 v6
    ) else (
      if (A_tryScript z0 (1 : Int32) (((7000 : Int64) + ((100 : Int64) * (v6).toInt64)) + ((10 : Int64) * (v9).toInt64))) = (-9999 : Int32) then (
        if (A_tryScript z0 (2 : Int32) ((((((2000 : Int64) + ((100 : Int64) * (v6).toInt64)) * (10000 : Int64)) + (7000 : Int64)) + ((100 : Int64) * (v6).toInt64)) + ((10 : Int64) * (v9).toInt64))) = (1 : Int32) then (
          hL_scripts_519 z0 x1 v2 v6
        ) else (
          hL_scripts_561 z0 x1 v2
        )
      ) else (
        hL_scripts_561 z0 x1 v2
      )
    )
  ) else (
    hL_scripts_561 z0 x1 v2
  )
noncomputable def hL_scripts_212 (z0 : aS) (x1 : Int32) (v2 : Int32) (y0 : Int32) : Option Int32 :=
  if v2 ≤ 0 then (
    hL_scripts_564 z0 x1 v2 y0
  ) else (
    if y0 = 0 then (
      hL_scripts_564 z0 x1 v2 y0
    ) else (
      chk (decide (¬ v2 = 0)) <|
      if (A_tryScript z0 (1 : Int32) ((((9000 : Int64) + ((100 : Int64) * ((x1 - x1 / v2 * v2)).toInt64)) + ((10 : Int64) * (((x1 / (16 : Int32)) - (x1 / (16 : Int32)) / (4 : Int32) * (4 : Int32))).toInt64)) + ((A_tryMember z0 (x1 - x1 / v2 * v2) ((x1 / (16 : Int32)) - (x1 / (16 : Int32)) / (4 : Int32) * (4 : Int32)))).toInt64)) = (-9999 : Int32) then (
        if (A_tryScript z0 (1 : Int32) ((((9000 : Int64) + ((100 : Int64) * ((x1 - x1 / v2 * v2)).toInt64)) + ((10 : Int64) * (((x1 / (16 : Int32)) - (x1 / (16 : Int32)) / (4 : Int32) * (4 : Int32))).toInt64)) + ((((A_tryMember z0 (x1 - x1 / v2 * v2) ((x1 / (16 : Int32)) - (x1 / (16 : Int32)) / (4 : Int32) * (4 : Int32))) + (1 : Int32)) - ((A_tryMember z0 (x1 - x1 / v2 * v2) ((x1 / (16 : Int32)) - (x1 / (16 : Int32)) / (4 : Int32) * (4 : Int32))) + (1 : Int32)) / (10 : Int32) * (10 : Int32))).toInt64)) = 0 then (
          if (A_tryScript z0 (2 : Int32) ((((((((6000 : Int64) + ((100 : Int64) * ((x1 - x1 / v2 * v2)).toInt64)) + ((10 : Int64) * (((x1 / (16 : Int32)) - (x1 / (16 : Int32)) / (4 : Int32) * (4 : Int32))).toInt64)) + (7 : Int64)) * (10000 : Int64)) + (9007 : Int64)) + ((100 : Int64) * ((x1 - x1 / v2 * v2)).toInt64)) + ((10 : Int64) * (((x1 / (16 : Int32)) - (x1 / (16 : Int32)) / (4 : Int32) * (4 : Int32))).toInt64))) = (-9999 : Int32) then (
            if (A_tryScript z0 (1 : Int32) ((9040 : Int64) + ((100 : Int64) * ((x1 - x1 / v2 * v2)).toInt64))) = 0 then (
              if (A_tryMember z0 (x1 - x1 / v2 * v2) (8 : Int32)) = (-9999 : Int32) then (
                hL_scripts_434 z0 x1 v2 (x1 - x1 / v2 * v2) (A_tryMember z0 (x1 - x1 / v2 * v2) (8 : Int32)) (0 : Int32) (A_tryScript z0 (1 : Int32) ((2000 : Int64) + ((100 : Int64) * ((x1 - x1 / v2 * v2)).toInt64)))
              ) else (
                hL_scripts_434 z0 x1 v2 (x1 - x1 / v2 * v2) (A_tryMember z0 (x1 - x1 / v2 * v2) (8 : Int32)) (-9999 : Int32) (A_tryScript z0 (1 : Int32) ((2000 : Int64) + ((100 : Int64) * ((x1 - x1 / v2 * v2)).toInt64)))
              )
            ) else (
              hL_scripts_561 z0 x1 v2
            )
          ) else (
            hL_scripts_561 z0 x1 v2
          )
        ) else (
          hL_scripts_561 z0 x1 v2
        )
      ) else (
        hL_scripts_561 z0 x1 v2
      )
    )
  )
noncomputable def hL_scripts_211 (z0 : aS) (x1 : Int32) (v2 : Int32) : Option Int32 :=
  hL_scripts_212 z0 x1 v2 (0 : Int32)
noncomputable def hL_scripts (z0 : aS) (x1 : Int32) : Option Int32 :=
  if (A_tryScript z0 (1 : Int32) ((8000 : Int64) + ((A_tryAbout z0 (1 : Int32))).toInt64)) = (-9999 : Int32) then (
    if (A_tryScript z0 (1 : Int32) ((8001 : Int64) + ((A_tryAbout z0 (1 : Int32))).toInt64)) = 0 then (
      if (A_tryScript z0 (1 : Int32) (3000 : Int64)) = (-9999 : Int32) then (
        if (A_tryScript z0 (1 : Int32) (3001 : Int64)) = 0 then (
          if (A_tryScript z0 (1 : Int32) (4000 : Int64)) = 0 then (
            if (A_tryScript z0 (1 : Int32) (4051 : Int64)) = 0 then (
              if (A_tryScript z0 (1 : Int32) (4050 : Int64)) = (-9999 : Int32) then (
                if (A_tryScript z0 (1 : Int32) (5512 : Int64)) = 0 then (
                  if (A_tryScript z0 (1 : Int32) (5511 : Int64)) = (-9999 : Int32) then (
                    if (A_tryScript z0 (1 : Int32) (6040 : Int64)) = 0 then (
                      if (A_tryScript z0 (1 : Int32) (8009 : Int64)) = 0 then (
                        if (A_tryScript z0 (1 : Int32) (0 : Int64)) = 0 then (
                          if (A_trySimulate z0 ((x1).toInt64 * (157 : Int64)) (15 : Int32)) < (-891 : Int32) then (
                            hL_scripts_211 z0 x1 (A_tryAbout z0 (0 : Int32))
                          ) else (
                            if (891 : Int32) < (A_trySimulate z0 ((x1).toInt64 * (157 : Int64)) (15 : Int32)) then (
                              hL_scripts_211 z0 x1 (A_tryAbout z0 (0 : Int32))
                            ) else (
                              if (A_trySimulate z0 ((x1).toInt64 * (157 : Int64)) (15 : Int32)) = (A_trySimulate z0 ((x1).toInt64 * (157 : Int64)) (15 : Int32)) then (
                                hL_scripts_212 z0 x1 (A_tryAbout z0 (0 : Int32)) (1 : Int32)
                              ) else (
                                hL_scripts_211 z0 x1 (A_tryAbout z0 (0 : Int32))
                              )
                            )
                          )
                        ) else (
                          hL_scripts_211 z0 x1 (A_tryAbout z0 (0 : Int32))
                        )
                      ) else (
                        hL_scripts_211 z0 x1 (A_tryAbout z0 (0 : Int32))
                      )
                    ) else (
                      hL_scripts_211 z0 x1 (A_tryAbout z0 (0 : Int32))
                    )
                  ) else (
                    hL_scripts_211 z0 x1 (A_tryAbout z0 (0 : Int32))
                  )
                ) else (
                  hL_scripts_211 z0 x1 (A_tryAbout z0 (0 : Int32))
                )
              ) else (
                hL_scripts_211 z0 x1 (A_tryAbout z0 (0 : Int32))
              )
            ) else (
              hL_scripts_211 z0 x1 (A_tryAbout z0 (0 : Int32))
            )
          ) else (
            hL_scripts_211 z0 x1 (A_tryAbout z0 (0 : Int32))
          )
        ) else (
          hL_scripts_211 z0 x1 (A_tryAbout z0 (0 : Int32))
        )
      ) else (
        hL_scripts_211 z0 x1 (A_tryAbout z0 (0 : Int32))
      )
    ) else (
      hL_scripts_211 z0 x1 (A_tryAbout z0 (0 : Int32))
    )
  ) else (
    hL_scripts_211 z0 x1 (A_tryAbout z0 (0 : Int32))
  )
noncomputable def hL_act_112 (x1 : Int32) (x2 : Int32) (z0 : aS) : Option (Int32 × aS) :=
  bd2 (A_tryJoin z0 (x2 - x2 / (4 : Int32) * (4 : Int32)) ((x2 / (4 : Int32)) - (x2 / (4 : Int32)) / (10000 : Int32) * (10000 : Int32)) (((x2 / (65536 : Int32)) - (x2 / (65536 : Int32)) / (199 : Int32) * (199 : Int32)) - (99 : Int32))) fun r_46 z0_13 =>
  some (r_46, z0_13)
noncomputable def hL_act_234 (x1 : Int32) (x2 : Int32) (z0 : aS) : Option (Int32 × aS) :=
  bd2 (A_tryWeek z0 ((x2 - x2 / (512 : Int32) * (512 : Int32)) &&& (x2 / (512 : Int32)))) fun r_48 z0_14 =>
  some (r_48, z0_14)
noncomputable def hL_act_33 (x1 : Int32) (x2 : Int32) (z0 : aS) (v3 : Int32) (v4 : Int32) (y0 : Int32) : Option (Int32 × aS) :=
  if (x1 - x1 / (16 : Int32) * (16 : Int32)) = (0 : Int32) then (
    hL_act_112 x1 x2 z0
  ) else (
  if (x1 - x1 / (16 : Int32) * (16 : Int32)) = (1 : Int32) then (
    hL_act_112 x1 x2 z0
  ) else (
  if (x1 - x1 / (16 : Int32) * (16 : Int32)) = (2 : Int32) then (
    if v3 ≤ (3 : Int32) then (
      bd2 (A_tryJoin z0 (x2 - x2 / (4 : Int32) * (4 : Int32)) ((x2 / (4 : Int32)) - (x2 / (4 : Int32)) / (10000 : Int32) * (10000 : Int32)) (0 : Int32)) fun r_9 z0_1 =>
      some (r_9, z0_1)
    ) else (
      bd2 (A_tryLeave z0 v4) fun r_11 z0_2 =>
      some (r_11, z0_2)
    )
  ) else (
  if (x1 - x1 / (16 : Int32) * (16 : Int32)) = (3 : Int32) then (
    bd2 (A_tryWant z0 v4 ((x2 / (16 : Int32)) - (x2 / (16 : Int32)) / (4 : Int32) * (4 : Int32))) fun r_14 z0_3 =>
    some (r_14, z0_3)
  ) else (
  if (x1 - x1 / (16 : Int32) * (16 : Int32)) = (4 : Int32) then (
    bd2 (A_tryTest z0 v4 ((x2 / (16 : Int32)) - (x2 / (16 : Int32)) / (4 : Int32) * (4 : Int32)) ((x2 / (64 : Int32)) - (x2 / (64 : Int32)) / (100 : Int32) * (100 : Int32))) fun r_17 z0_4 =>
    some (r_17, z0_4)
  ) else (
  if (x1 - x1 / (16 : Int32) * (16 : Int32)) = (5 : Int32) then (
    bd2 (A_tryPair z0 v4 y0) fun r_20 z0_5 =>
    some (r_20, z0_5)
  ) else (
  if (x1 - x1 / (16 : Int32) * (16 : Int32)) = (6 : Int32) then (
    bd2 (A_tryPart z0 v4) fun r_23 z0_6 =>
    some (r_23, z0_6)
  ) else (
  if (x1 - x1 / (16 : Int32) * (16 : Int32)) = (7 : Int32) then (
    bd2 (A_match z0) fun r_26 z0_7 =>
    some (r_26, z0_7)
  ) else (
  if (x1 - x1 / (16 : Int32) * (16 : Int32)) = (8 : Int32) then (
    bd2 (A_match z0) fun r_29 z0_8 =>
    some (r_29, z0_8)
  ) else (
  if (x1 - x1 / (16 : Int32) * (16 : Int32)) = (9 : Int32) then (
    bd2 (A_trySettle z0 ((1 : Int32) + (x2 - x2 / (9 : Int32) * (9 : Int32)))) fun r_32 z0_9 =>
    some (r_32, z0_9)
  ) else (
  if (x1 - x1 / (16 : Int32) * (16 : Int32)) = (10 : Int32) then (
    hL_act_234 x1 x2 z0
  ) else (
  if (x1 - x1 / (16 : Int32) * (16 : Int32)) = (11 : Int32) then (
    hL_act_234 x1 x2 z0
  ) else (
  if (x1 - x1 / (16 : Int32) * (16 : Int32)) = (12 : Int32) then (
    hL_act_234 x1 x2 z0
  ) else (
  if (x1 - x1 / (16 : Int32) * (16 : Int32)) = (13 : Int32) then (
    hL_act_234 x1 x2 z0
  ) else (
  if (x1 - x1 / (16 : Int32) * (16 : Int32)) = (14 : Int32) then (
    bd2 (A_tryUndo z0) fun r_39 z0_10 =>
    some (r_39, z0_10)
  ) else (
    if (x2 - x2 / (2 : Int32) * (2 : Int32)) = 0 then (
      bd2 (A_trySave z0 (1 : Int32)) fun r_44 z0_12 =>
      some (r_44, z0_12)
    ) else (
      bd2 (A_tryRestore z0 (1 : Int32)) fun r_42 z0_11 =>
      some (r_42, z0_11)
    )
  )))))))))))))))
noncomputable def hL_act_17 (x1 : Int32) (x2 : Int32) (z0 : aS) (v3 : Int32) (y0 : Int32) : Option (Int32 × aS) :=
  if v3 = 0 then (
    hL_act_33 x1 x2 z0 v3 y0 (0 : Int32)
  ) else (
    chk (decide (¬ v3 = 0)) <|
    hL_act_33 x1 x2 z0 v3 y0 ((x2 / (16 : Int32)) - (x2 / (16 : Int32)) / v3 * v3)
  )
noncomputable def hL_act (x1 : Int32) (x2 : Int32) (z0 : aS) : Option (Int32 × aS) :=
  if (A_tryAbout z0 (0 : Int32)) = 0 then (
    hL_act_17 x1 x2 z0 (A_tryAbout z0 (0 : Int32)) (0 : Int32)
  ) else (
    chk (decide (¬ (A_tryAbout z0 (0 : Int32)) = 0)) <|
    hL_act_17 x1 x2 z0 (A_tryAbout z0 (0 : Int32)) (x2 - x2 / (A_tryAbout z0 (0 : Int32)) * (A_tryAbout z0 (0 : Int32)))
  )
noncomputable def hL_law_349 (L : Nat) (xs : Nat → Int32) (q81 : aS → aS → Int32 → Int32 → Option Int32) (q136 : aS → aS → Int32 → Int32 → Int32 → Option Int32) (z0 : aS) (z1 : aS) (v4 : Int32) (v5 : Int32) : Option Int32 :=
  q136 z0 z1 (0 : Int32) v4 (v5 + (1 : Int32))
noncomputable def hL_law_231 (L : Nat) (xs : Nat → Int32) (q81 : aS → aS → Int32 → Int32 → Option Int32) (q136 : aS → aS → Int32 → Int32 → Int32 → Option Int32) (z0 : aS) (z1 : aS) (v4 : Int32) (v5 : Int32) (v6 : Int32) (v7 : Int32) (y0 : Int32) : Option Int32 :=
  if (v5 - v5 / (4 : Int32) * (4 : Int32)) = (3 : Int32) then (
    if y0 = 0 then (
      q136 z0 z1 y0 v4 (v5 + (1 : Int32))
    ) else (
      bd1 (hL_scripts z0 v6) fun r_52 =>
      if r_52 = 0 then (
        hL_law_349 L xs q81 q136 z0 z1 v4 v5
      ) else (
        bd2 (A_trySave z1 (0 : Int32)) fun r_55 z1_9 =>
        if r_55 = (A_tryAbout z0 (2 : Int32)) then (
          bd2 (A_trySave z0 (0 : Int32)) fun r_58 z0_10 =>
          if r_58 = (A_tryAbout z0 (2 : Int32)) then (
            bd2 (A_tryRestore z0_10 (0 : Int32)) fun r_61 z0_11 =>
            if r_61 = (A_tryAbout z0 (2 : Int32)) then (
              bd2 (hL_hands v7 z0_11) fun r_64 z0_12 =>
              if r_64 = 0 then (
                hL_law_349 L xs q81 q136 z0_12 z1_9 v4 v5
              ) else (
                bd2 (hL_weeks v7 z0_12) fun r_67 z0_13 =>
                if r_67 = 0 then (
                  hL_law_349 L xs q81 q136 z0_13 z1_9 v4 v5
                ) else (
                  bd2 (A_tryRestore z0_13 (0 : Int32)) fun r_70 z0_14 =>
                  if r_70 = (A_tryAbout z0 (2 : Int32)) then (
                    bd2 (A_tryRestore z1_9 (0 : Int32)) fun r_73 z1_15 =>
                    if r_73 = (A_tryAbout z0 (2 : Int32)) then (
                      bd2 (A_tryUndo z0_14) fun r_76 z0_16 =>
                      if r_76 = (-99003 : Int32) then (
                        bd1 (hL_alike z0_16 z1_15) fun r_79 =>
                        if r_79 = 0 then (
                          hL_law_349 L xs q81 q136 z0_16 z1_15 v4 v5
                        ) else (
                          q136 z0_16 z1_15 (1 : Int32) v4 (v5 + (1 : Int32))
                        )
                      ) else (
                        hL_law_349 L xs q81 q136 z0_16 z1_15 v4 v5
                      )
                    ) else (
                      hL_law_349 L xs q81 q136 z0_14 z1_15 v4 v5
                    )
                  ) else (
                    hL_law_349 L xs q81 q136 z0_14 z1_9 v4 v5
                  )
                )
              )
            ) else (
              hL_law_349 L xs q81 q136 z0_11 z1_9 v4 v5
            )
          ) else (
            hL_law_349 L xs q81 q136 z0_10 z1_9 v4 v5
          )
        ) else (
          hL_law_349 L xs q81 q136 z0 z1_9 v4 v5
        )
      )
    )
  ) else (
    q136 z0 z1 y0 v4 (v5 + (1 : Int32))
  )
noncomputable def hL_law_136 (L : Nat) (xs : Nat → Int32) (q81 : aS → aS → Int32 → Int32 → Option Int32) : Nat → aS → aS → Int32 → Int32 → Int32 → Option Int32
  | 0, _, _, _, _, _ => none
  | n + 1, z0, z1, v3, v4, v5 =>
    if (12 : Int32) ≤ v5 then (
      q81 z0 z1 v3 (v4 + (1 : Int32))
    ) else (
      if v3 = 0 then (
        q81 z0 z1 v3 (v4 + (1 : Int32))
      ) else (
        bd1 (hL_number L xs ((((40 : Int32) * v4) + (11 : Int32)) + ((2 : Int32) * v5))) fun r_32 =>
        bd1 (hL_number L xs ((((40 : Int32) * v4) + (12 : Int32)) + ((2 : Int32) * v5))) fun r_34 =>
        bd2 (hL_act r_32 r_34 z0) fun r_36 z0_6 =>
        bd2 (hL_act r_32 r_34 z1) fun r_38 z1_7 =>
        if r_36 = r_38 then (
          bd2 (hL_refuses z1_7) fun r_41 z1_8 =>
          if r_41 = 0 then (
            hL_law_231 L xs q81 (hL_law_136 L xs q81 n) z0_6 z1_8 v4 v5 r_32 r_34 (0 : Int32)
          ) else (
            bd1 (hL_alike z0_6 z1_8) fun r_44 =>
            if r_44 = 0 then (
              hL_law_231 L xs q81 (hL_law_136 L xs q81 n) z0_6 z1_8 v4 v5 r_32 r_34 (0 : Int32)
            ) else (
              bd1 (hL_sound z0_6) fun r_47 =>
              if r_47 = 0 then (
                hL_law_231 L xs q81 (hL_law_136 L xs q81 n) z0_6 z1_8 v4 v5 r_32 r_34 (0 : Int32)
              ) else (
                hL_law_231 L xs q81 (hL_law_136 L xs q81 n) z0_6 z1_8 v4 v5 r_32 r_34 (1 : Int32)
              )
            )
          )
        ) else (
          hL_law_231 L xs q81 (hL_law_136 L xs q81 n) z0_6 z1_7 v4 v5 r_32 r_34 (0 : Int32)
        )
      )
    )
noncomputable def hL_law_131 (L : Nat) (xs : Nat → Int32) (q81 : aS → aS → Int32 → Int32 → Option Int32) (z0 : aS) (z1 : aS) (v4 : Int32) : Option Int32 :=
  hL_law_136 L xs q81 13 z0 z1 (0 : Int32) v4 (0 : Int32)
noncomputable def hL_law_81 (L : Nat) (xs : Nat → Int32) : Nat → aS → aS → Int32 → Int32 → Option Int32
  | 0, _, _, _, _ => none
  | n + 1, z0, z1, v3, v4 =>
    if (2 : Int32) ≤ v4 then (
      some v3
    ) else (
      if v3 = 0 then (
        some v3
      ) else (
        bd3 (hL_told L xs ((40 : Int32) * v4) z0 z1) fun r_18 z0_3 z1_4 =>
        if r_18 = 0 then (
          hL_law_131 L xs (hL_law_81 L xs n) z0_3 z1_4 v4
        ) else (
          bd2 (hL_refuses z1_4) fun r_21 z1_5 =>
          if r_21 = 0 then (
            hL_law_131 L xs (hL_law_81 L xs n) z0_3 z1_5 v4
          ) else (
            bd1 (hL_alike z0_3 z1_5) fun r_24 =>
            if r_24 = 0 then (
              hL_law_131 L xs (hL_law_81 L xs n) z0_3 z1_5 v4
            ) else (
              bd1 (hL_sound z0_3) fun r_27 =>
              if r_27 = 0 then (
                hL_law_131 L xs (hL_law_81 L xs n) z0_3 z1_5 v4
              ) else (
                hL_law_136 L xs (hL_law_81 L xs n) 13 z0_3 z1_5 (1 : Int32) v4 (0 : Int32)
              )
            )
          )
        )
      )
    )
noncomputable def hL_law_76 (L : Nat) (xs : Nat → Int32) (z0 : aS) (z1 : aS) : Option Int32 :=
  hL_law_81 L xs 3 z0 z1 (0 : Int32) (0 : Int32)
noncomputable def hL_law (L : Nat) (xs : Nat → Int32) (z0 : aS) (z1 : aS) : Option Int32 :=
  if (A_errorPosition z0) = 0 then (
    if (A_tryAbout z0 (0 : Int32)) = 0 then (
      if (A_missedMost z0) = (-9999 : Int32) then (
        bd2 (A_tryUndo z0) fun r_4 z0_1 =>
        if r_4 = (-99003 : Int32) then (
          bd2 (hL_refuses z1) fun r_7 z1_2 =>
          if r_7 = 0 then (
            hL_law_76 L xs z0_1 z1_2
          ) else (
            bd1 (hL_alike z0_1 z1_2) fun r_10 =>
            if r_10 = 0 then (
              hL_law_76 L xs z0_1 z1_2
            ) else (
              bd1 (hL_sound z0_1) fun r_13 =>
              if r_13 = 0 then (
                hL_law_76 L xs z0_1 z1_2
              ) else (
                hL_law_81 L xs 3 z0_1 z1_2 (1 : Int32) (0 : Int32)
              )
            )
          )
        ) else (
          hL_law_76 L xs z0_1 z1
        )
      ) else (
        hL_law_76 L xs z0 z1
      )
    ) else (
      hL_law_76 L xs z0 z1
    )
  ) else (
    hL_law_76 L xs z0 z1
  )
