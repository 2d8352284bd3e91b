def fX1_lead (k0 : Nat) (x1 : Int32) (x2 : Int32) (S : teS) : Option Int32 :=
  chk (tein x1 9) <|
  chk (tein x2 9) <|
  chk (tein (S k0 (2 + 10 * x1.toNatClampNeg + 4)) 4) <|
  some ((S k0 (2 + 10 * x2.toNatClampNeg + (S k0 (2 + 10 * x1.toNatClampNeg + 4)).toNatClampNeg)) - (S k0 (2 + 10 * x1.toNatClampNeg + (S k0 (2 + 10 * x1.toNatClampNeg + 4)).toNatClampNeg)))
def fX1_fit (k0 : Nat) (x1 : Int32) (x2 : Int32) (S : teS) : Option Int32 :=
  bd1 (fX1_lead k0 x1 x2 S) fun r_1 =>
  if r_1 < (2 : Int32) then (
    some (0 : Int32)
  ) else (
    bd1 (fX1_lead k0 x2 x1 S) fun r_4 =>
    if r_4 < (2 : Int32) then (
      some (0 : Int32)
    ) else (
      some (1 : Int32)
    )
  )
def fJ9_floorDiv_7cf53 (x0 : Int32) (x1 : Int32) (S : teS) : Option Int32 :=
  chk (decide (¬ x1 = 0)) <|
  if 0 ≤ (x0 ^^^ x1) then (
    some (x0 / x1)
  ) else (
    if ((x0 / x1) * x1) = x0 then (
      some (x0 / x1)
    ) else (
      some ((x0 / x1) - (1 : Int32))
    )
  )
def fX1_score (k0 : Nat) (x1 : Int32) (x2 : Int32) (S : teS) : Option Int32 :=
  chk (tein x2 9) <|
  bd1 (fX1_lead k0 x1 x2 S) fun r_2 =>
  bd1 (fJ9_floorDiv_7cf53 (S k0 (2 + 10 * x2.toNatClampNeg + 6)) (4 : Int32) S) fun r_4 =>
  some ((((10 : Int32) * r_2) - ((5 : Int32) * (S k0 (2 + 10 * x2.toNatClampNeg + 7)))) + r_4)
def fX1_value (k0 : Nat) (x1 : Int32) (x2 : Int32) (S : teS) : Option Int32 :=
  bd1 (fX1_score k0 x1 x2 S) fun r_1 =>
  bd1 (fX1_score k0 x2 x1 S) fun r_3 =>
  some (r_1 + r_3)
def fX0_rankWith_11 (k1 : Nat) (x2 : Int32) (x3 : Int32) : Nat → teS → Int32 → Int32 → Option Int32
  | 0, _, _, _ => none
  | n + 1, S, v4, v5 =>
    if x2 ≤ v5 then (
      some v4
    ) else (
      if ((x3 >>> (v5 &&& 31)) &&& (1 : Int32)) = (1 : Int32) then (
        bd1 (fX1_fit k1 v5 x2 S) fun r_4 =>
        if r_4 = 0 then (
          fX0_rankWith_11 k1 x2 x3 n S v4 (v5 + (1 : Int32))
        ) else (
          chk (tein (x3 &&& (((1 : Int32) <<< (v5 &&& 31)) ^^^ (-1 : Int32))) 512) <|
          bd1 (fX1_value k1 v5 x2 S) fun r_8 =>
          fX0_rankWith_11 k1 x2 x3 n S (if v4 < (((S 368 (x3 &&& (((1 : Int32) <<< (v5 &&& 31)) ^^^ (-1 : Int32))).toNatClampNeg) + (1000000 : Int32)) + r_8) then (((S 368 (x3 &&& (((1 : Int32) <<< (v5 &&& 31)) ^^^ (-1 : Int32))).toNatClampNeg) + (1000000 : Int32)) + r_8) else v4) (v5 + (1 : Int32))
        )
      ) else (
        fX0_rankWith_11 k1 x2 x3 n S v4 (v5 + (1 : Int32))
      )
    )
def fX0_rankWith (k1 : Nat) (x2 : Int32) (x3 : Int32) (S : teS) : Option Int32 :=
  chk (tein x3 512) <|
  fX0_rankWith_11 k1 x2 x3 2000 S (S 368 x3.toNatClampNeg) (0 : Int32)
def fX0_fill_24 (k1 : Nat) (q9 : teS → Int32 → Option teS) : Nat → teS → Int32 → Int32 → Int32 → Option teS
  | 0, _, _, _, _ => none
  | n + 1, S1, v2, v3, v4 =>
    if v3 ≤ v4 then (
      q9 S1 (v2 + (1 : Int32))
    ) else (
      bd1 (fX0_rankWith k1 v2 v4 S1) fun r_4 =>
      chk (tein (v3 ||| v4) 512) <|
      lt1 (teu S1 368 (v3 ||| v4).toNatClampNeg r_4) fun S2 =>
      fX0_fill_24 k1 q9 n S2 v2 v3 (v4 + (1 : Int32))
    )
def fX0_fill_9 (k1 : Nat) : Nat → teS → Int32 → Option teS
  | 0, _, _ => none
  | n + 1, S1, v2 =>
    if (S1 k1 0) ≤ v2 then (
      some S1
    ) else (
      fX0_fill_24 k1 (fX0_fill_9 k1 n) 2000 S1 v2 ((1 : Int32) <<< (v2 &&& 31)) (0 : Int32)
    )
def fX0_fill (k1 : Nat) (S : teS) : Option teS :=
  chk (tein (0 : Int32) 512) <|
  lt1 (teu S 368 (0 : Int32).toNatClampNeg (0 : Int32)) fun S1 =>
  fX0_fill_9 k1 2000 S1 (0 : Int32)
def fX0_rankOfAll (k1 : Nat) (S : teS) : Option Int32 :=
  chk (tein (((1 : Int32) <<< ((S k1 0) &&& 31)) - (1 : Int32)) 512) <|
  some (S 368 (((1 : Int32) <<< ((S k1 0) &&& 31)) - (1 : Int32)).toNatClampNeg)
def fX0_rankWithout (k1 : Nat) (x2 : Int32) (S : teS) : Option Int32 :=
  chk (tein ((((1 : Int32) <<< ((S k1 0) &&& 31)) - (1 : Int32)) &&& (((1 : Int32) <<< (x2 &&& 31)) ^^^ (-1 : Int32))) 512) <|
  some (S 368 ((((1 : Int32) <<< ((S k1 0) &&& 31)) - (1 : Int32)) &&& (((1 : Int32) <<< (x2 &&& 31)) ^^^ (-1 : Int32))).toNatClampNeg)
def fX0_pairsOf (x1 : Int32) (S : teS) : Option Int32 :=
  bd1 (fJ9_floorDiv_7cf53 (x1 + (500000 : Int32)) (1000000 : Int32) S) fun r_1 =>
  some r_1
def fX0_sumOf (x1 : Int32) (S : teS) : Option Int32 :=
  bd1 (fX0_pairsOf x1 S) fun r_1 =>
  some (x1 - (r_1 * (1000000 : Int32)))
def fX3_copyFrom (k0 : Nat) (m0 : Nat) (k1 : Nat) (m1 : Nat) (S : teS) : Option teS :=
  lt1 (tecp S k0 m0 k1 m1) fun S1 =>
  lt1 (teu S1 k0 (2 + 10 * m0 + 4) (S1 k1 (2 + 10 * m1 + 4))) fun S2 =>
  lt1 (teu S2 k0 (2 + 10 * m0 + 5) (S2 k1 (2 + 10 * m1 + 5))) fun S3 =>
  lt1 (teu S3 k0 (2 + 10 * m0 + 6) (S3 k1 (2 + 10 * m1 + 6))) fun S4 =>
  lt1 (teu S4 k0 (2 + 10 * m0 + 7) (S4 k1 (2 + 10 * m1 + 7))) fun S5 =>
  lt1 (teu S5 k0 (2 + 10 * m0 + 8) (S5 k1 (2 + 10 * m1 + 8))) fun S6 =>
  lt1 (teu S6 k0 (2 + 10 * m0 + 9) (S6 k1 (2 + 10 * m1 + 9))) fun S7 =>
  some S7
def fX1_copyFrom_2 (k0 : Nat) (k1 : Nat) : Nat → teS → Int32 → Option teS
  | 0, _, _ => none
  | n + 1, S1, v2 =>
    if (S1 k1 0) ≤ v2 then (
      lt1 (teu S1 k0 0 (S1 k1 0)) fun S2 =>
      lt1 (teu S2 k0 1 (S2 k1 1)) fun S3 =>
      some S3
    ) else (
      chk (tein v2 9) <|
      bd1 (fX3_copyFrom k0 v2.toNatClampNeg k1 v2.toNatClampNeg S1) fun S4 =>
      fX1_copyFrom_2 k0 k1 n S4 (v2 + (1 : Int32))
    )
def fX1_copyFrom (k0 : Nat) (k1 : Nat) (S : teS) : Option teS :=
  fX1_copyFrom_2 k0 k1 2000 S (0 : Int32)
def fX1_has (k0 : Nat) (x1 : Int32) (S : teS) : Option Int32 :=
  if x1 < 0 then (
    some (0 : Int32)
  ) else (
    if (S k0 0) ≤ x1 then (
      some (0 : Int32)
    ) else (
      some (1 : Int32)
    )
  )
def fX1_isFree (k0 : Nat) (x1 : Int32) (S : teS) : Option Int32 :=
  chk (tein x1 9) <|
  if (S k0 (2 + 10 * x1.toNatClampNeg + 8)) = (-9999 : Int32) then (
    some (1 : Int32)
  ) else (
    some (0 : Int32)
  )
def fX1_greaterPartner (k0 : Nat) (x1 : Int32) (S : teS) : Option Int32 :=
  chk (tein x1 9) <|
  bd1 (fX1_has k0 (S k0 (2 + 10 * x1.toNatClampNeg + 8)) S) fun r_2 =>
  if r_2 = 0 then (
    some (-9999 : Int32)
  ) else (
    if (S k0 (2 + 10 * x1.toNatClampNeg + 8)) ≤ x1 then (
      some (-9999 : Int32)
    ) else (
      some (S k0 (2 + 10 * x1.toNatClampNeg + 8))
    )
  )
def fX1_countFittingWith_4 (k0 : Nat) (x1 : Int32) : Nat → teS → Int32 → Int32 → Option Int32
  | 0, _, _, _ => none
  | n + 1, S, v2, v3 =>
    if (S k0 0) ≤ v3 then (
      some v2
    ) else (
      bd1 (fX1_fit k0 x1 v3 S) fun r_2 =>
      if r_2 = 0 then (
        fX1_countFittingWith_4 k0 x1 n S v2 (v3 + (1 : Int32))
      ) else (
        fX1_countFittingWith_4 k0 x1 n S (v2 + (1 : Int32)) (v3 + (1 : Int32))
      )
    )
def fX1_countFittingWith (k0 : Nat) (x1 : Int32) (S : teS) : Option Int32 :=
  fX1_countFittingWith_4 k0 x1 2000 S (0 : Int32) (0 : Int32)
def fX1_numberOf_23 (k0 : Nat) (x1 : Int32) (x2 : Int32) (S : teS) (n3 : Nat) : Option Int32 :=
  if x2 = (4 : Int32) then (
    some (S k0 (2 + 10 * n3 + 4))
  ) else (
  if x2 = (5 : Int32) then (
    some (S k0 (2 + 10 * n3 + 5))
  ) else (
  if x2 = (6 : Int32) then (
    some (S k0 (2 + 10 * n3 + 6))
  ) else (
  if x2 = (7 : Int32) then (
    some (S k0 (2 + 10 * n3 + 7))
  ) else (
  if x2 = (8 : Int32) then (
    some (S k0 (2 + 10 * n3 + 8))
  ) else (
  if x2 = (9 : Int32) then (
    bd1 (fX1_isFree k0 x1 S) fun r_11 =>
    if r_11 = 0 then (
      some (S k0 (2 + 10 * n3 + 9))
    ) else (
      some (-9999 : Int32)
    )
  ) else (
  if x2 = (10 : Int32) then (
    bd1 (fX1_countFittingWith k0 x1 S) fun r_15 =>
    some r_15
  ) else (
    some (-9999 : Int32)
  )))))))
def fX1_numberOf (k0 : Nat) (x1 : Int32) (x2 : Int32) (S : teS) : Option Int32 :=
  chk (tein x1 9) <|
  if x2 < 0 then (
    fX1_numberOf_23 k0 x1 x2 S x1.toNatClampNeg
  ) else (
    if (4 : Int32) ≤ x2 then (
      fX1_numberOf_23 k0 x1 x2 S x1.toNatClampNeg
    ) else (
      chk (tein x2 4) <|
      some (S k0 (2 + 10 * x1.toNatClampNeg + x2.toNatClampNeg))
    )
  )
def fX1_prefers (k0 : Nat) (x1 : Int32) (x2 : Int32) (S : teS) : Option Int32 :=
  chk (tein x1 9) <|
  bd1 (fX1_has k0 (S k0 (2 + 10 * x1.toNatClampNeg + 8)) S) fun r_2 =>
  if r_2 = 0 then (
    some (1 : Int32)
  ) else (
    bd1 (fX1_score k0 x1 (S k0 (2 + 10 * x1.toNatClampNeg + 8)) S) fun r_5 =>
    bd1 (fX1_score k0 x1 x2 S) fun r_7 =>
    if r_7 ≤ r_5 then (
      some (0 : Int32)
    ) else (
      some (1 : Int32)
    )
  )
def fX1_block (k0 : Nat) (x1 : Int32) (x2 : Int32) (S : teS) : Option Int32 :=
  chk (tein x1 9) <|
  if (S k0 (2 + 10 * x1.toNatClampNeg + 8)) = x2 then (
    some (0 : Int32)
  ) else (
    bd1 (fX1_fit k0 x1 x2 S) fun r_3 =>
    if r_3 = 0 then (
      some (0 : Int32)
    ) else (
      bd1 (fX1_prefers k0 x1 x2 S) fun r_6 =>
      if r_6 = 0 then (
        some (0 : Int32)
      ) else (
        bd1 (fX1_prefers k0 x2 x1 S) fun r_9 =>
        if r_9 = 0 then (
          some (0 : Int32)
        ) else (
          some (1 : Int32)
        )
      )
    )
  )
def fX1_canBecomePartners (k0 : Nat) (x1 : Int32) (x2 : Int32) (S : teS) : Option Int32 :=
  bd1 (fX1_isFree k0 x1 S) fun r_1 =>
  if r_1 = 0 then (
    some (0 : Int32)
  ) else (
    bd1 (fX1_isFree k0 x2 S) fun r_4 =>
    if r_4 = 0 then (
      some (0 : Int32)
    ) else (
      bd1 (fX1_fit k0 x1 x2 S) fun r_7 =>
      if r_7 = 0 then (
        some (0 : Int32)
      ) else (
        some (1 : Int32)
      )
    )
  )
def fX1_countPairs_4 (k0 : Nat) : Nat → teS → Int32 → Int32 → Option Int32
  | 0, _, _, _ => none
  | n + 1, S, v1, v2 =>
    if (S k0 0) ≤ v2 then (
      some v1
    ) else (
      bd1 (fX1_greaterPartner k0 v2 S) fun r_2 =>
      if r_2 = (-9999 : Int32) then (
        fX1_countPairs_4 k0 n S v1 (v2 + (1 : Int32))
      ) else (
        fX1_countPairs_4 k0 n S (v1 + (1 : Int32)) (v2 + (1 : Int32))
      )
    )
def fX1_countPairs (k0 : Nat) (S : teS) : Option Int32 :=
  fX1_countPairs_4 k0 2000 S (0 : Int32) (0 : Int32)
def fX1_sumOfValues_4 (k0 : Nat) : Nat → teS → Int32 → Int32 → Option Int32
  | 0, _, _, _ => none
  | n + 1, S, v1, v2 =>
    if (S k0 0) ≤ v2 then (
      some v1
    ) else (
      bd1 (fX1_greaterPartner k0 v2 S) fun r_2 =>
      if r_2 = (-9999 : Int32) then (
        fX1_sumOfValues_4 k0 n S v1 (v2 + (1 : Int32))
      ) else (
        bd1 (fX1_value k0 v2 r_2 S) fun r_5 =>
        fX1_sumOfValues_4 k0 n S (v1 + r_5) (v2 + (1 : Int32))
      )
    )
def fX1_sumOfValues (k0 : Nat) (S : teS) : Option Int32 :=
  fX1_sumOfValues_4 k0 2000 S (0 : Int32) (0 : Int32)
def fX1_sumOfCredits_4 (k0 : Nat) : Nat → teS → Int32 → Int32 → Option Int32
  | 0, _, _, _ => none
  | n + 1, S, v1, v2 =>
    if (S k0 0) ≤ v2 then (
      some v1
    ) else (
      chk (tein v2 9) <|
      fX1_sumOfCredits_4 k0 n S (v1 + (S k0 (2 + 10 * v2.toNatClampNeg + 6))) (v2 + (1 : Int32))
    )
def fX1_sumOfCredits (k0 : Nat) (S : teS) : Option Int32 :=
  fX1_sumOfCredits_4 k0 2000 S (0 : Int32) (0 : Int32)
def fX1_countBlocking_16 (k0 : Nat) (q4 : teS → Int32 → Int32 → Option Int32) : Nat → teS → Int32 → Int32 → Int32 → Option Int32
  | 0, _, _, _, _ => none
  | n + 1, S, v1, v2, v3 =>
    if (S k0 0) ≤ v3 then (
      q4 S v1 (v2 + (1 : Int32))
    ) else (
      bd1 (fX1_block k0 v2 v3 S) fun r_3 =>
      if r_3 = 0 then (
        fX1_countBlocking_16 k0 q4 n S v1 v2 (v3 + (1 : Int32))
      ) else (
        fX1_countBlocking_16 k0 q4 n S (v1 + (1 : Int32)) v2 (v3 + (1 : Int32))
      )
    )
def fX1_countBlocking_4 (k0 : Nat) : Nat → teS → Int32 → Int32 → Option Int32
  | 0, _, _, _ => none
  | n + 1, S, v1, v2 =>
    if (S k0 0) ≤ v2 then (
      some v1
    ) else (
      fX1_countBlocking_16 k0 (fX1_countBlocking_4 k0 n) 2000 S v1 v2 (v2 + (1 : Int32))
    )
def fX1_countBlocking (k0 : Nat) (S : teS) : Option Int32 :=
  fX1_countBlocking_4 k0 2000 S (0 : Int32) (0 : Int32)
def fX1_countFitting_4 (k0 : Nat) : Nat → teS → Int32 → Int32 → Option Int32
  | 0, _, _, _ => none
  | n + 1, S, v1, v2 =>
    if (S k0 0) ≤ v2 then (
      some (v1 / (2 : Int32))
    ) else (
      bd1 (fX1_countFittingWith k0 v2 S) fun r_2 =>
      fX1_countFitting_4 k0 n S (v1 + r_2) (v2 + (1 : Int32))
    )
def fX1_countFitting (k0 : Nat) (S : teS) : Option Int32 :=
  fX1_countFitting_4 k0 2000 S (0 : Int32) (0 : Int32)
def fX3_start_6 (k0 : Nat) (m0 : Nat) (x1 : Int32) (x2 : Int32) (x3 : Int32) : Nat → teS → Int32 → Int32 → Option teS
  | 0, _, _, _ => none
  | n + 1, S1, v4, v5 =>
    if v5 < 0 then (
      lt1 (teu S1 k0 (2 + 10 * m0 + 4) x1) fun S2 =>
      lt1 (teu S2 k0 (2 + 10 * m0 + 5) (0 : Int32)) fun S3 =>
      lt1 (teu S3 k0 (2 + 10 * m0 + 6) x3) fun S4 =>
      lt1 (teu S4 k0 (2 + 10 * m0 + 7) (0 : Int32)) fun S5 =>
      lt1 (teu S5 k0 (2 + 10 * m0 + 8) (-9999 : Int32)) fun S6 =>
      lt1 (teu S6 k0 (2 + 10 * m0 + 9) (0 : Int32)) fun S7 =>
      some S7
    ) else (
      chk (tein v5 4) <|
      lt1 (teu S1 k0 (2 + 10 * m0 + v5.toNatClampNeg) (v4 - v4 / (10 : Int32) * (10 : Int32))) fun S8 =>
      fX3_start_6 k0 m0 x1 x2 x3 n S8 (v4 / (10 : Int32)) (v5 + (-1 : Int32))
    )
def fX3_start (k0 : Nat) (m0 : Nat) (x1 : Int32) (x2 : Int32) (x3 : Int32) (S : teS) : Option teS :=
  fX3_start_6 k0 m0 x1 x2 x3 2000 S x2 (3 : Int32)
def fX1_add (k0 : Nat) (x1 : Int32) (x2 : Int32) (x3 : Int32) (S : teS) : Option teS :=
  if (9 : Int32) ≤ (S k0 0) then (
    some S
  ) else (
    chk (tein (S k0 0) 9) <|
    bd1 (fX3_start k0 ((S k0 0).toNatClampNeg) x1 x2 x3 S) fun S1 =>
    lt1 (teu S1 k0 0 ((S1 k0 0) + (1 : Int32))) fun S2 =>
    some S2
  )
def fX1_separate (k0 : Nat) (x1 : Int32) (S : teS) : Option teS :=
  chk (tein x1 9) <|
  bd1 (fX1_has k0 (S k0 (2 + 10 * x1.toNatClampNeg + 8)) S) fun r_2 =>
  if r_2 = 0 then (
    some S
  ) else (
    lt1 (teu S k0 (2 + 10 * x1.toNatClampNeg + 8) (-9999 : Int32)) fun S1 =>
    chk (tein (S k0 (2 + 10 * x1.toNatClampNeg + 8)) 9) <|
    lt1 (teu S1 k0 (2 + 10 * (S k0 (2 + 10 * x1.toNatClampNeg + 8)).toNatClampNeg + 8) (-9999 : Int32)) fun S2 =>
    some S2
  )
def fX1_remove_50 (k0 : Nat) (x1 : Int32) : Nat → teS → Int32 → Option teS
  | 0, _, _ => none
  | n + 1, S1, v2 =>
    if (S1 k0 0) ≤ v2 then (
      some S1
    ) else (
      chk (tein v2 9) <|
      if (S1 k0 (2 + 10 * v2.toNatClampNeg + 8)) ≤ x1 then (
        fX1_remove_50 k0 x1 n S1 (v2 + (1 : Int32))
      ) else (
        lt1 (teu S1 k0 (2 + 10 * v2.toNatClampNeg + 8) ((S1 k0 (2 + 10 * v2.toNatClampNeg + 8)) - (1 : Int32))) fun S2 =>
        fX1_remove_50 k0 x1 n S2 (v2 + (1 : Int32))
      )
    )
def fX1_remove_17 (k0 : Nat) (x1 : Int32) : Nat → teS → Int32 → Option teS
  | 0, _, _ => none
  | n + 1, S1, v2 =>
    if (S1 k0 0) ≤ v2 then (
      fX1_remove_50 k0 x1 2000 S1 (0 : Int32)
    ) else (
      chk (tein v2 9) <|
      chk (tein (v2 + (1 : Int32)) 9) <|
      bd1 (fX3_copyFrom k0 v2.toNatClampNeg k0 ((v2 + (1 : Int32)).toNatClampNeg) S1) fun S2 =>
      fX1_remove_17 k0 x1 n S2 (v2 + (1 : Int32))
    )
def fX1_remove (k0 : Nat) (x1 : Int32) (S : teS) : Option teS :=
  bd1 (fX1_separate k0 x1 S) fun S1 =>
  lt1 (teu S1 k0 0 ((S1 k0 0) - (1 : Int32))) fun S2 =>
  fX1_remove_17 k0 x1 2000 S2 x1
def fX1_separateIfUnfit (k0 : Nat) (x1 : Int32) (S : teS) : Option teS :=
  chk (tein x1 9) <|
  bd1 (fX1_has k0 (S k0 (2 + 10 * x1.toNatClampNeg + 8)) S) fun r_2 =>
  if r_2 = 0 then (
    some S
  ) else (
    bd1 (fX1_fit k0 x1 (S k0 (2 + 10 * x1.toNatClampNeg + 8)) S) fun r_5 =>
    if r_5 = 0 then (
      bd1 (fX1_separate k0 x1 S) fun S1 =>
      some S1
    ) else (
      some S
    )
  )
def fX1_changeWish (k0 : Nat) (x1 : Int32) (x2 : Int32) (S : teS) : Option teS :=
  chk (tein x1 9) <|
  lt1 (teu S k0 (2 + 10 * x1.toNatClampNeg + 4) x2) fun S1 =>
  lt1 (teu S1 k0 (2 + 10 * x1.toNatClampNeg + 5) (0 : Int32)) fun S2 =>
  bd1 (fX1_separateIfUnfit k0 x1 S2) fun S3 =>
  some S3
def fX1_grade (k0 : Nat) (x1 : Int32) (x2 : Int32) (x3 : Int32) (S : teS) : Option teS :=
  chk (tein x1 9) <|
  chk (tein x2 4) <|
  lt1 (teu S k0 (2 + 10 * x1.toNatClampNeg + x2.toNatClampNeg) (x3 / (10 : Int32))) fun S1 =>
  if (S1 k0 (2 + 10 * x1.toNatClampNeg + 4)) = x2 then (
    lt1 (teu S1 k0 (2 + 10 * x1.toNatClampNeg + 5) ((x3 - x3 / (10 : Int32) * (10 : Int32)) * (2 : Int32))) fun S3 =>
    bd1 (fX1_separateIfUnfit k0 x1 S3) fun S4 =>
    some S4
  ) else (
    bd1 (fX1_separateIfUnfit k0 x1 S1) fun S2 =>
    some S2
  )
def fX1_unite (k0 : Nat) (x1 : Int32) (x2 : Int32) (S : teS) : Option teS :=
  chk (tein x1 9) <|
  lt1 (teu S k0 (2 + 10 * x1.toNatClampNeg + 8) x2) fun S1 =>
  chk (tein x2 9) <|
  lt1 (teu S1 k0 (2 + 10 * x2.toNatClampNeg + 8) x1) fun S2 =>
  lt1 (teu S2 k0 (2 + 10 * x1.toNatClampNeg + 9) (0 : Int32)) fun S3 =>
  lt1 (teu S3 k0 (2 + 10 * x2.toNatClampNeg + 9) (0 : Int32)) fun S4 =>
  some S4
def fX1_uniteBestFreePair_67 (k0 : Nat) (q13 : teS → Int32 → Int32 → Int32 → Int32 → Option (Int32 × teS)) (q28 : teS → Int32 → Int32 → Int32 → Int32 → Int32 → Option (Int32 × teS)) (S1 : teS) (v4 : Int32) (v5 : Int32) : Option (Int32 × teS) :=
  bd1 (fX1_value k0 v4 v5 S1) fun r_18 =>
  q28 S1 v4 v5 r_18 v4 (v5 + (1 : Int32))
def fX1_uniteBestFreePair_28 (k0 : Nat) (q13 : teS → Int32 → Int32 → Int32 → Int32 → Option (Int32 × teS)) : Nat → teS → Int32 → Int32 → Int32 → Int32 → Int32 → Option (Int32 × teS)
  | 0, _, _, _, _, _, _ => none
  | n + 1, S1, v1, v2, v3, v4, v5 =>
    if (S1 k0 0) ≤ v5 then (
      q13 S1 v1 v2 v3 (v4 + (1 : Int32))
    ) else (
      bd1 (fX1_canBecomePartners k0 v4 v5 S1) fun r_11 =>
      if r_11 = 0 then (
        fX1_uniteBestFreePair_28 k0 q13 n S1 v1 v2 v3 v4 (v5 + (1 : Int32))
      ) else (
        if v1 = (-9999 : Int32) then (
          fX1_uniteBestFreePair_67 k0 q13 (fX1_uniteBestFreePair_28 k0 q13 n) S1 v4 v5
        ) else (
          bd1 (fX1_value k0 v4 v5 S1) fun r_15 =>
          if r_15 ≤ v3 then (
            fX1_uniteBestFreePair_28 k0 q13 n S1 v1 v2 v3 v4 (v5 + (1 : Int32))
          ) else (
            fX1_uniteBestFreePair_67 k0 q13 (fX1_uniteBestFreePair_28 k0 q13 n) S1 v4 v5
          )
        )
      )
    )
def fX1_uniteBestFreePair_13 (k0 : Nat) : Nat → teS → Int32 → Int32 → Int32 → Int32 → Option (Int32 × teS)
  | 0, _, _, _, _, _ => none
  | n + 1, S1, v1, v2, v3, v4 =>
    if (S1 k0 0) ≤ v4 then (
      bd1 (fX1_has k0 v1 S1) fun r_2 =>
      if r_2 = 0 then (
        some ((0 : Int32), S1)
      ) else (
        bd1 (fX1_has k0 v2 S1) fun r_5 =>
        if r_5 = 0 then (
          some ((0 : Int32), S1)
        ) else (
          bd1 (fX1_unite k0 v1 v2 S1) fun S2 =>
          some ((1 : Int32), S2)
        )
      )
    ) else (
      fX1_uniteBestFreePair_28 k0 (fX1_uniteBestFreePair_13 k0 n) 2000 S1 v1 v2 v3 v4 (v4 + (1 : Int32))
    )
def fX1_uniteBestFreePair (k0 : Nat) (S : teS) : Option (Int32 × teS) :=
  fX1_uniteBestFreePair_13 k0 2000 S (-9999 : Int32) (-9999 : Int32) (0 : Int32) (0 : Int32)
def fX1_matchFree_2 (k0 : Nat) : Nat → teS → Int32 → Option (Int32 × teS)
  | 0, _, _ => none
  | n + 1, S1, v1 =>
    if (4 : Int32) ≤ v1 then (
      some (v1, S1)
    ) else (
      bd2 (fX1_uniteBestFreePair k0 S1) fun r_2 S2 =>
      if r_2 = 0 then (
        some (v1, S2)
      ) else (
        fX1_matchFree_2 k0 n S2 (v1 + (1 : Int32))
      )
    )
def fX1_matchFree (k0 : Nat) (S : teS) : Option (Int32 × teS) :=
  fX1_matchFree_2 k0 2000 S (0 : Int32)
def fX1_uniteFirstBlockingPair_14 (k0 : Nat) (q2 : teS → Int32 → Option (Int32 × teS)) : Nat → teS → Int32 → Int32 → Option (Int32 × teS)
  | 0, _, _, _ => none
  | n + 1, S1, v1, v2 =>
    if (S1 k0 0) ≤ v2 then (
      q2 S1 (v1 + (1 : Int32))
    ) else (
      bd1 (fX1_block k0 v1 v2 S1) fun r_3 =>
      if r_3 = 0 then (
        fX1_uniteFirstBlockingPair_14 k0 q2 n S1 v1 (v2 + (1 : Int32))
      ) else (
        bd1 (fX1_separate k0 v1 S1) fun S2 =>
        bd1 (fX1_separate k0 v2 S2) fun S3 =>
        bd1 (fX1_unite k0 v1 v2 S3) fun S4 =>
        some ((1 : Int32), S4)
      )
    )
def fX1_uniteFirstBlockingPair_2 (k0 : Nat) : Nat → teS → Int32 → Option (Int32 × teS)
  | 0, _, _ => none
  | n + 1, S1, v1 =>
    if (S1 k0 0) ≤ v1 then (
      some ((0 : Int32), S1)
    ) else (
      fX1_uniteFirstBlockingPair_14 k0 (fX1_uniteFirstBlockingPair_2 k0 n) 2000 S1 v1 (v1 + (1 : Int32))
    )
def fX1_uniteFirstBlockingPair (k0 : Nat) (S : teS) : Option (Int32 × teS) :=
  fX1_uniteFirstBlockingPair_2 k0 2000 S (0 : Int32)
def fX1_settleBy_2 (k0 : Nat) (x1 : Int32) : Nat → teS → Int32 → Option (Int32 × teS)
  | 0, _, _ => none
  | n + 1, S1, v2 =>
    if x1 ≤ v2 then (
      some (v2, S1)
    ) else (
      bd2 (fX1_uniteFirstBlockingPair k0 S1) fun r_2 S2 =>
      if r_2 = 0 then (
        some (v2, S2)
      ) else (
        fX1_settleBy_2 k0 x1 n S2 (v2 + (1 : Int32))
      )
    )
def fX1_settleBy (k0 : Nat) (x1 : Int32) (S : teS) : Option (Int32 × teS) :=
  fX1_settleBy_2 k0 x1 2000 S (0 : Int32)
def fX3_gainCredits (k0 : Nat) (m0 : Nat) (x1 : Int32) (S : teS) : Option teS :=
  lt1 (teu S k0 (2 + 10 * m0 + 6) (if (-99 : Int32) < (if ((S k0 (2 + 10 * m0 + 6)) + x1) < (99 : Int32) then ((S k0 (2 + 10 * m0 + 6)) + x1) else (99 : Int32)) then (if ((S k0 (2 + 10 * m0 + 6)) + x1) < (99 : Int32) then ((S k0 (2 + 10 * m0 + 6)) + x1) else (99 : Int32)) else (-99 : Int32))) fun S1 =>
  some S1
def fX3_failToMeet (k0 : Nat) (m0 : Nat) (x1 : Int32) (S : teS) : Option teS :=
  lt1 (teu S k0 (2 + 10 * m0 + 9) ((S k0 (2 + 10 * m0 + 9)) + (1 : Int32))) fun S1 =>
  if x1 = 0 then (
    bd1 (fX3_gainCredits k0 m0 (2 : Int32) S1) fun S2 =>
    some S2
  ) else (
    lt1 (teu S1 k0 (2 + 10 * m0 + 7) ((S1 k0 (2 + 10 * m0 + 7)) + (1 : Int32))) fun S3 =>
    bd1 (fX3_gainCredits k0 m0 (-3 : Int32) S3) fun S4 =>
    some S4
  )
def fX1_pointsOfMeeting (k0 : Nat) (x1 : Int32) (x2 : Int32) (S : teS) : Option Int32 :=
  bd1 (fX1_lead k0 x1 x2 S) fun r_1 =>
  some (if (1 : Int32) < ((4 : Int32) + r_1) then ((4 : Int32) + r_1) else (1 : Int32))
def fX3_learn_57 (k0 : Nat) (m0 : Nat) (x1 : Int32) (S1 : teS) : Option teS :=
  chk (tein (S1 k0 (2 + 10 * m0 + 4)) 4) <|
  if (S1 k0 (2 + 10 * m0 + (S1 k0 (2 + 10 * m0 + 4)).toNatClampNeg)) = (9 : Int32) then (
    lt1 (teu S1 k0 (2 + 10 * m0 + 5) (0 : Int32)) fun S2 =>
    some S2
  ) else (
    some S1
  )
def fX3_learn (k0 : Nat) (m0 : Nat) (x1 : Int32) (S : teS) : Option teS :=
  lt1 (teu S k0 (2 + 10 * m0 + 5) ((S k0 (2 + 10 * m0 + 5)) + x1)) fun S1 =>
  if (S1 k0 (2 + 10 * m0 + 5)) < (20 : Int32) then (
    fX3_learn_57 k0 m0 x1 S1
  ) else (
    chk (tein (S1 k0 (2 + 10 * m0 + 4)) 4) <|
    if (9 : Int32) ≤ (S1 k0 (2 + 10 * m0 + (S1 k0 (2 + 10 * m0 + 4)).toNatClampNeg)) then (
      fX3_learn_57 k0 m0 x1 S1
    ) else (
      lt1 (teu S1 k0 (2 + 10 * m0 + (S1 k0 (2 + 10 * m0 + 4)).toNatClampNeg) ((S1 k0 (2 + 10 * m0 + (S1 k0 (2 + 10 * m0 + 4)).toNatClampNeg)) + (1 : Int32))) fun S2 =>
      lt1 (teu S2 k0 (2 + 10 * m0 + 5) ((S2 k0 (2 + 10 * m0 + 5)) - (20 : Int32))) fun S3 =>
      fX3_learn_57 k0 m0 x1 S3
    )
  )
def fX3_meet (k0 : Nat) (m0 : Nat) (x1 : Int32) (S : teS) : Option teS :=
  lt1 (teu S k0 (2 + 10 * m0 + 9) (0 : Int32)) fun S1 =>
  bd1 (fX3_gainCredits k0 m0 (1 : Int32) S1) fun S2 =>
  bd1 (fX3_learn k0 m0 x1 S2) fun S3 =>
  some S3
def fX1_passWeekOfPair_42 (k0 : Nat) (x1 : Int32) (x2 : Int32) (x3 : Int32) (S1 : teS) (v4 : Int32) (v5 : Int32) : Option teS :=
  chk (tein x1 9) <|
  bd1 (fX3_failToMeet k0 x1.toNatClampNeg v4 S1) fun S2 =>
  chk (tein x2 9) <|
  bd1 (fX3_failToMeet k0 x2.toNatClampNeg v5 S2) fun S3 =>
  some S3
def fX1_passWeekOfPair_30 (k0 : Nat) (x1 : Int32) (x2 : Int32) (x3 : Int32) (S1 : teS) (v4 : Int32) (y0 : Int32) : Option teS :=
  if v4 = 0 then (
    if y0 = 0 then (
      bd1 (fX1_pointsOfMeeting k0 x1 x2 S1) fun r_5 =>
      bd1 (fX1_pointsOfMeeting k0 x2 x1 S1) fun r_7 =>
      chk (tein x1 9) <|
      bd1 (fX3_meet k0 x1.toNatClampNeg r_5 S1) fun S2 =>
      chk (tein x2 9) <|
      bd1 (fX3_meet k0 x2.toNatClampNeg r_7 S2) fun S3 =>
      some S3
    ) else (
      fX1_passWeekOfPair_42 k0 x1 x2 x3 S1 v4 y0
    )
  ) else (
    fX1_passWeekOfPair_42 k0 x1 x2 x3 S1 v4 y0
  )
def fX1_passWeekOfPair_14 (k0 : Nat) (x1 : Int32) (x2 : Int32) (x3 : Int32) (S1 : teS) (y0 : Int32) : Option teS :=
  if ((x3 >>> (x2 &&& 31)) &&& (1 : Int32)) = (1 : Int32) then (
    fX1_passWeekOfPair_30 k0 x1 x2 x3 S1 y0 (1 : Int32)
  ) else (
    fX1_passWeekOfPair_30 k0 x1 x2 x3 S1 y0 (0 : Int32)
  )
def fX1_passWeekOfPair (k0 : Nat) (x1 : Int32) (x2 : Int32) (x3 : Int32) (S : teS) : Option teS :=
  if ((x3 >>> (x1 &&& 31)) &&& (1 : Int32)) = (1 : Int32) then (
    fX1_passWeekOfPair_14 k0 x1 x2 x3 S (1 : Int32)
  ) else (
    fX1_passWeekOfPair_14 k0 x1 x2 x3 S (0 : Int32)
  )
def fX1_passWeek_38 (k0 : Nat) (x1 : Int32) : Nat → teS → Int32 → Option teS
  | 0, _, _ => none
  | n + 1, S1, v2 =>
    if (S1 k0 0) ≤ v2 then (
      lt1 (teu S1 k0 1 ((S1 k0 1) + (1 : Int32))) fun S2 =>
      some S2
    ) else (
      bd1 (fX1_greaterPartner k0 v2 S1) fun r_8 =>
      if r_8 = (-9999 : Int32) then (
        fX1_passWeek_38 k0 x1 n S1 (v2 + (1 : Int32))
      ) else (
        bd1 (fX1_fit k0 v2 r_8 S1) fun r_11 =>
        if r_11 = 0 then (
          bd1 (fX1_separate k0 v2 S1) fun S3 =>
          fX1_passWeek_38 k0 x1 n S3 (v2 + (1 : Int32))
        ) else (
          chk (tein v2 9) <|
          if (S1 k0 (2 + 10 * v2.toNatClampNeg + 9)) < (3 : Int32) then (
            fX1_passWeek_38 k0 x1 n S1 (v2 + (1 : Int32))
          ) else (
            bd1 (fX1_separate k0 v2 S1) fun S4 =>
            fX1_passWeek_38 k0 x1 n S4 (v2 + (1 : Int32))
          )
        )
      )
    )
def fX1_passWeek_2 (k0 : Nat) (x1 : Int32) : Nat → teS → Int32 → Option teS
  | 0, _, _ => none
  | n + 1, S1, v2 =>
    if (S1 k0 0) ≤ v2 then (
      fX1_passWeek_38 k0 x1 2000 S1 (0 : Int32)
    ) else (
      bd1 (fX1_greaterPartner k0 v2 S1) fun r_2 =>
      if r_2 = (-9999 : Int32) then (
        fX1_passWeek_2 k0 x1 n S1 (v2 + (1 : Int32))
      ) else (
        bd1 (fX1_passWeekOfPair k0 v2 r_2 x1 S1) fun S2 =>
        fX1_passWeek_2 k0 x1 n S2 (v2 + (1 : Int32))
      )
    )
def fX1_passWeek (k0 : Nat) (x1 : Int32) (S : teS) : Option teS :=
  fX1_passWeek_2 k0 x1 2000 S (0 : Int32)
def fX2_remember_32 (k1 : Nat) (S1 : teS) : Option teS :=
  chk (tein (((S1 363 0) + (S1 363 1)) - ((S1 363 0) + (S1 363 1)) / (14 : Int32) * (14 : Int32)) 14) <|
  bd1 (fX1_copyFrom (2 + (((S1 363 0) + (S1 363 1)) - ((S1 363 0) + (S1 363 1)) / (14 : Int32) * (14 : Int32)).toNatClampNeg) k1 S1) fun S2 =>
  lt1 (teu S2 363 1 ((S2 363 1) + (1 : Int32))) fun S3 =>
  some S3
def fX2_remember (k1 : Nat) (S : teS) : Option teS :=
  if (S 363 1) < (14 : Int32) then (
    fX2_remember_32 k1 S
  ) else (
    lt1 (teu S 363 0 (((S 363 0) + (1 : Int32)) - ((S 363 0) + (1 : Int32)) / (14 : Int32) * (14 : Int32))) fun S1 =>
    lt1 (teu S1 363 1 ((S1 363 1) - (1 : Int32))) fun S2 =>
    fX2_remember_32 k1 S2
  )
def fX2_takeBack (k1 : Nat) (S : teS) : Option teS :=
  if (S 363 1) ≤ 0 then (
    some S
  ) else (
    lt1 (teu S 363 1 ((S 363 1) - (1 : Int32))) fun S1 =>
    chk (tein (((S1 363 0) + (S1 363 1)) - ((S1 363 0) + (S1 363 1)) / (14 : Int32) * (14 : Int32)) 14) <|
    bd1 (fX1_copyFrom k1 (2 + (((S1 363 0) + (S1 363 1)) - ((S1 363 0) + (S1 363 1)) / (14 : Int32) * (14 : Int32)).toNatClampNeg) S1) fun S2 =>
    some S2
  )
def fX2_forget (S : teS) : Option teS :=
  lt1 (teu S 363 1 (0 : Int32)) fun S1 =>
  some S1
def fX3_wantedLevel (k0 : Nat) (m0 : Nat) (S : teS) : Option Int32 :=
  chk (tein (S k0 (2 + 10 * m0 + 4)) 4) <|
  some (S k0 (2 + 10 * m0 + (S k0 (2 + 10 * m0 + 4)).toNatClampNeg))
def fX4_add (x1 : Int32) (S : teS) : Option teS :=
  if (90 : Int32) ≤ (S 361 0) then (
    some S
  ) else (
    chk (tein (S 361 0) 90) <|
    lt1 (teu S 362 (S 361 0).toNatClampNeg (vp_nar .char x1)) fun S1 =>
    lt1 (teu S1 361 0 ((S1 361 0) + (1 : Int32))) fun S2 =>
    some S2
  )
def fX4_allows_59 (x1 : Int32) (x2 : Int32) (S : teS) (y0 : Int32) : Option Int32 :=
  if x2 < (48 : Int32) then (
    some (0 : Int32)
  ) else (
    if y0 < x2 then (
      some (0 : Int32)
    ) else (
      some (1 : Int32)
    )
  )
def fX4_allows (x1 : Int32) (x2 : Int32) (S : teS) : Option Int32 :=
  if x1 = 0 then (
    if x2 = (76 : Int32) then (
      some (1 : Int32)
    ) else (
      some (0 : Int32)
    )
  ) else (
    if x1 ≤ (72 : Int32) then (
      if ((x1 - (1 : Int32)) - (x1 - (1 : Int32)) / (8 : Int32) * (8 : Int32)) = 0 then (
        if x2 = (109 : Int32) then (
          some (1 : Int32)
        ) else (
          some (0 : Int32)
        )
      ) else (
        if ((x1 - (1 : Int32)) - (x1 - (1 : Int32)) / (8 : Int32) * (8 : Int32)) = (1 : Int32) then (
          fX4_allows_59 x1 x2 S (51 : Int32)
        ) else (
          fX4_allows_59 x1 x2 S (57 : Int32)
        )
      )
    ) else (
      some (0 : Int32)
    )
  )
def fX4_isWhole (S : teS) : Option Int32 :=
  if (S 361 0) ≤ 0 then (
    some (0 : Int32)
  ) else (
    if (((S 361 0) - (1 : Int32)) - ((S 361 0) - (1 : Int32)) / (8 : Int32) * (8 : Int32)) = 0 then (
      some (1 : Int32)
    ) else (
      some (0 : Int32)
    )
  )
def fX4_firstError_2 : Nat → teS → Int32 → Option Int32
  | 0, _, _ => none
  | n + 1, S, v1 =>
    if (S 361 0) ≤ v1 then (
      bd1 (fX4_isWhole S) fun r_2 =>
      if r_2 = 0 then (
        some (S 361 0)
      ) else (
        some (-9999 : Int32)
      )
    ) else (
      chk (tein v1 90) <|
      bd1 (fX4_allows v1 (S 362 v1.toNatClampNeg) S) fun r_6 =>
      if r_6 = 0 then (
        some v1
      ) else (
        fX4_firstError_2 n S (v1 + (1 : Int32))
      )
    )
def fX4_firstError (S : teS) : Option Int32 :=
  fX4_firstError_2 2000 S (0 : Int32)
def fX4_number_5 (x1 : Int32) (x2 : Int32) : Nat → teS → Int32 → Int32 → Option Int32
  | 0, _, _, _ => none
  | n + 1, S, v3, v4 =>
    if (x1 + x2) ≤ v4 then (
      some v3
    ) else (
      if (S 361 0) ≤ v4 then (
        some v3
      ) else (
        chk (tein v4 90) <|
        fX4_number_5 x1 x2 n S ((((10 : Int32) * v3) + (S 362 v4.toNatClampNeg)) - (48 : Int32)) (v4 + (1 : Int32))
      )
    )
def fX4_number (x1 : Int32) (x2 : Int32) (S : teS) : Option Int32 :=
  fX4_number_5 x1 x2 2000 S (0 : Int32) x1
def fX4_readInto_12 (k1 : Nat) : Nat → teS → Int32 → Option teS
  | 0, _, _ => none
  | n + 1, S1, v2 =>
    if (S1 361 0) < (v2 + (8 : Int32)) then (
      some S1
    ) else (
      bd1 (fX4_number (v2 + (1 : Int32)) (1 : Int32) S1) fun r_2 =>
      bd1 (fX4_number (v2 + (2 : Int32)) (4 : Int32) S1) fun r_4 =>
      bd1 (fX4_number (v2 + (6 : Int32)) (2 : Int32) S1) fun r_6 =>
      bd1 (fX1_add k1 r_2 r_4 r_6 S1) fun S2 =>
      fX4_readInto_12 k1 n S2 (v2 + (8 : Int32))
    )
def fX4_readInto (k1 : Nat) (S : teS) : Option teS :=
  lt1 (teu S k1 0 (0 : Int32)) fun S1 =>
  lt1 (teu S1 k1 1 (0 : Int32)) fun S2 =>
  fX4_readInto_12 k1 2000 S2 (1 : Int32)
def fX5_requireRange (x0 : Int32) (x1 : Int32) (x2 : Int32) (S : teS) : Option (Nat ⊕ Unit) :=
  if x0 < x1 then (
    some (.inl 1)
  ) else (
    if x0 ≤ x2 then (
      some (.inr ())
    ) else (
      some (.inl 1)
    )
  )
def fX5_append (x1 : Int32) (S : teS) : Option (Nat ⊕ (Int32 × teS)) :=
  bx1 (fX5_requireRange x1 (0 : Int32) (255 : Int32) S) fun _ =>
  if (S 361 0) < (90 : Int32) then (
    bd1 (fX4_add (((x1).toUInt32 % 65536).toInt32) S) fun S1 =>
    some (.inr ((S1 361 0), S1))
  ) else (
    some (.inl 2)
  )
def fX5_clearText (S : teS) : Option (Int32 × teS) :=
  lt1 (teu S 361 0 (0 : Int32)) fun S1 =>
  some ((S 361 0), S1)
def fX5_errorPosition (S : teS) : Option Int32 :=
  bd1 (fX4_firstError S) fun r_1 =>
  some r_1
def fX5_load_43 : Nat → teS → Int32 → Option (Nat ⊕ (Int32 × teS))
  | 0, _, _ => none
  | n + 1, S1, v1 =>
    if (2 : Int32) ≤ v1 then (
      some (.inr ((S1 0 0), S1))
    ) else (
      chk (tein v1 2) <|
      lt1 (teu S1 366 v1.toNatClampNeg (vp_nar .boolean (0 : Int32))) fun S2 =>
      fX5_load_43 n S2 (v1 + (1 : Int32))
    )
def fX5_load (S : teS) : Option (Nat ⊕ (Int32 × teS)) :=
  bd1 (fX4_firstError S) fun r_1 =>
  if r_1 = (-9999 : Int32) then (
    bd1 (fX4_readInto 0 S) fun S1 =>
    bd1 (fX2_forget S1) fun S2 =>
    fX5_load_43 2000 S2 (0 : Int32)
  ) else (
    some (.inl 2)
  )
def fX5_about (x1 : Int32) (S : teS) : Option (Nat ⊕ (Int32 × teS)) :=
  if x1 = (0 : Int32) then (
    some (.inr ((S 0 0), S))
  ) else (
  if x1 = (1 : Int32) then (
    bd1 (fX1_countPairs 0 S) fun r_3 =>
    some (.inr (r_3, S))
  ) else (
  if x1 = (2 : Int32) then (
    some (.inr ((S 0 1), S))
  ) else (
  if x1 = (3 : Int32) then (
    bd1 (fX1_sumOfValues 0 S) fun r_7 =>
    some (.inr (r_7, S))
  ) else (
  if x1 = (4 : Int32) then (
    bd1 (fX1_countBlocking 0 S) fun r_10 =>
    some (.inr (r_10, S))
  ) else (
  if x1 = (5 : Int32) then (
    bd1 (fX1_sumOfCredits 0 S) fun r_13 =>
    some (.inr (r_13, S))
  ) else (
  if x1 = (6 : Int32) then (
    bd1 (fX1_countFitting 0 S) fun r_16 =>
    some (.inr (r_16, S))
  ) else (
    some (.inl 1)
  )))))))
def fX5_requireMember (x1 : Int32) (S : teS) : Option (Nat ⊕ Unit) :=
  bd1 (fX1_has 0 x1 S) fun r_1 =>
  if r_1 = 0 then (
    some (.inl 3)
  ) else (
    some (.inr ())
  )
def fX5_member (x1 : Int32) (x2 : Int32) (S : teS) : Option (Nat ⊕ (Int32 × teS)) :=
  bx1 (fX5_requireMember x1 S) fun _ =>
  bx1 (fX5_requireRange x2 (0 : Int32) (10 : Int32) S) fun _ =>
  bd1 (fX1_numberOf 0 x1 x2 S) fun r_5 =>
  some (.inr (r_5, S))
def fX5_requireTwoMembers (x1 : Int32) (x2 : Int32) (S : teS) : Option (Nat ⊕ Unit) :=
  bx1 (fX5_requireMember x1 S) fun _ =>
  bx1 (fX5_requireMember x2 S) fun _ =>
  if x1 = x2 then (
    some (.inl 1)
  ) else (
    some (.inr ())
  )
def fX5_both (x1 : Int32) (x2 : Int32) (x3 : Int32) (S : teS) : Option (Nat ⊕ (Int32 × teS)) :=
  bx1 (fX5_requireTwoMembers x1 x2 S) fun _ =>
  if x3 = (0 : Int32) then (
    bd1 (fX1_score 0 x1 x2 S) fun r_4 =>
    some (.inr (r_4, S))
  ) else (
  if x3 = (1 : Int32) then (
    bd1 (fX1_value 0 x1 x2 S) fun r_7 =>
    some (.inr (r_7, S))
  ) else (
  if x3 = (2 : Int32) then (
    bd1 (fX1_fit 0 x1 x2 S) fun r_10 =>
    if r_10 = 0 then (
      some (.inr ((0 : Int32), S))
    ) else (
      some (.inr ((1 : Int32), S))
    )
  ) else (
  if x3 = (3 : Int32) then (
    bd1 (fX1_block 0 x1 x2 S) fun r_14 =>
    if r_14 = 0 then (
      some (.inr ((0 : Int32), S))
    ) else (
      some (.inr ((1 : Int32), S))
    )
  ) else (
    some (.inl 1)
  ))))
def fX5_requireLanguage (x0 : Int32) (S : teS) : Option (Nat ⊕ Unit) :=
  bx1 (fX5_requireRange x0 (0 : Int32) (3 : Int32) S) fun _ =>
  some (.inr ())
def fX5_join (x1 : Int32) (x2 : Int32) (x3 : Int32) (S : teS) : Option (Nat ⊕ (Int32 × teS)) :=
  bx1 (fX5_requireLanguage x1 S) fun _ =>
  bx1 (fX5_requireRange x2 (0 : Int32) (9999 : Int32) S) fun _ =>
  bx1 (fX5_requireRange x3 (-99 : Int32) (99 : Int32) S) fun _ =>
  if (S 0 0) < (9 : Int32) then (
    bd1 (fX2_remember 0 S) fun S1 =>
    bd1 (fX1_add 0 x1 x2 x3 S1) fun S2 =>
    some (.inr (((S2 0 0) - (1 : Int32)), S2))
  ) else (
    some (.inl 2)
  )
def fX5_leave (x1 : Int32) (S : teS) : Option (Nat ⊕ (Int32 × teS)) :=
  bx1 (fX5_requireMember x1 S) fun _ =>
  bd1 (fX2_remember 0 S) fun S1 =>
  chk (tein x1 9) <|
  bd1 (fX1_remove 0 x1 S1) fun S2 =>
  some (.inr ((S1 0 (2 + 10 * x1.toNatClampNeg + 6)), S2))
def fX5_want (x1 : Int32) (x2 : Int32) (S : teS) : Option (Nat ⊕ (Int32 × teS)) :=
  bx1 (fX5_requireMember x1 S) fun _ =>
  bx1 (fX5_requireLanguage x2 S) fun _ =>
  bd1 (fX2_remember 0 S) fun S1 =>
  chk (tein x1 9) <|
  bd1 (fX1_changeWish 0 x1 x2 S1) fun S2 =>
  some (.inr ((S1 0 (2 + 10 * x1.toNatClampNeg + 4)), S2))
def fX5_test (x1 : Int32) (x2 : Int32) (x3 : Int32) (S : teS) : Option (Nat ⊕ (Int32 × teS)) :=
  bx1 (fX5_requireMember x1 S) fun _ =>
  bx1 (fX5_requireLanguage x2 S) fun _ =>
  bx1 (fX5_requireRange x3 (0 : Int32) (99 : Int32) S) fun _ =>
  bd1 (fX2_remember 0 S) fun S1 =>
  chk (tein x1 9) <|
  chk (tein x2 4) <|
  bd1 (fX1_grade 0 x1 x2 x3 S1) fun S2 =>
  some (.inr ((S1 0 (2 + 10 * x1.toNatClampNeg + x2.toNatClampNeg)), S2))
def fX5_pair (x1 : Int32) (x2 : Int32) (S : teS) : Option (Nat ⊕ (Int32 × teS)) :=
  bx1 (fX5_requireTwoMembers x1 x2 S) fun _ =>
  bd1 (fX1_canBecomePartners 0 x1 x2 S) fun r_3 =>
  if r_3 = 0 then (
    some (.inl 2)
  ) else (
    bd1 (fX2_remember 0 S) fun S1 =>
    bd1 (fX1_unite 0 x1 x2 S1) fun S2 =>
    bd1 (fX1_value 0 x1 x2 S2) fun r_10 =>
    some (.inr (r_10, S2))
  )
def fX5_requirePartner (x1 : Int32) (S : teS) : Option (Nat ⊕ Unit) :=
  bd1 (fX1_isFree 0 x1 S) fun r_1 =>
  if r_1 = 0 then (
    some (.inr ())
  ) else (
    some (.inl 2)
  )
def fX5_part (x1 : Int32) (S : teS) : Option (Nat ⊕ (Int32 × teS)) :=
  bx1 (fX5_requireMember x1 S) fun _ =>
  bx1 (fX5_requirePartner x1 S) fun _ =>
  bd1 (fX2_remember 0 S) fun S1 =>
  chk (tein x1 9) <|
  bd1 (fX1_separate 0 x1 S1) fun S2 =>
  some (.inr ((S1 0 (2 + 10 * x1.toNatClampNeg + 8)), S2))
def fX5_match (S : teS) : Option (Int32 × teS) :=
  bd1 (fX2_remember 0 S) fun S1 =>
  bd2 (fX1_matchFree 0 S1) fun r_3 S2 =>
  some (r_3, S2)
def fX5_settle (x1 : Int32) (S : teS) : Option (Nat ⊕ (Int32 × teS)) :=
  bx1 (fX5_requireRange x1 (1 : Int32) (50 : Int32) S) fun _ =>
  bd1 (fX2_remember 0 S) fun S1 =>
  bd2 (fX1_settleBy 0 x1 S1) fun r_5 S2 =>
  some (.inr (r_5, S2))
def fX5_week (x1 : Int32) (S : teS) : Option (Nat ⊕ (Int32 × teS)) :=
  bx1 (fX5_requireRange x1 (0 : Int32) (511 : Int32) S) fun _ =>
  bd1 (fX2_remember 0 S) fun S1 =>
  bd1 (fX1_passWeek 0 x1 S1) fun S2 =>
  bd1 (fX1_countPairs 0 S2) fun r_7 =>
  some (.inr (r_7, S2))
def fX5_undo (S : teS) : Option (Nat ⊕ (Int32 × teS)) :=
  if (S 363 1) = 0 then (
    some (.inl 2)
  ) else (
    bd1 (fX2_takeBack 0 S) fun S1 =>
    some (.inr ((S1 363 1), S1))
  )
def fX5_blocking_37 (x1 : Int32) (x2 : Int32) (q19 : teS → Int32 → Int32 → Option (Nat ⊕ (Int32 × teS))) : Nat → teS → Int32 → Int32 → Int32 → Option (Nat ⊕ (Int32 × teS))
  | 0, _, _, _, _ => none
  | n + 1, S, v3, v4, v5 =>
    if (S 0 0) ≤ v5 then (
      q19 S v3 (v4 + (1 : Int32))
    ) else (
      bd1 (fX1_block 0 v4 v5 S) fun r_4 =>
      if r_4 = 0 then (
        fX5_blocking_37 x1 x2 q19 n S v3 v4 (v5 + (1 : Int32))
      ) else (
        if v3 = 0 then (
          if x2 = 0 then (
            some (.inr (v4, S))
          ) else (
            some (.inr (v5, S))
          )
        ) else (
          fX5_blocking_37 x1 x2 q19 n S (v3 + (-1 : Int32)) v4 (v5 + (1 : Int32))
        )
      )
    )
def fX5_blocking_19 (x1 : Int32) (x2 : Int32) : Nat → teS → Int32 → Int32 → Option (Nat ⊕ (Int32 × teS))
  | 0, _, _, _ => none
  | n + 1, S, v3, v4 =>
    if (S 0 0) ≤ v4 then (
      some (.inr ((-9999 : Int32), S))
    ) else (
      fX5_blocking_37 x1 x2 (fX5_blocking_19 x1 x2 n) 2000 S v3 v4 (v4 + (1 : Int32))
    )
def fX5_blocking (x1 : Int32) (x2 : Int32) (S : teS) : Option (Nat ⊕ (Int32 × teS)) :=
  if 0 ≤ x1 then (
    fX5_blocking_19 x1 x2 2000 S x1 (0 : Int32)
  ) else (
    some (.inl 1)
  )
def fX5_bestPartner_56 (x1 : Int32) (x2 : Int32) (q15 : teS → Int32 → Int32 → Int32 → Option (Nat ⊕ (Int32 × teS))) (S : teS) (v3 : Int32) (v4 : Int32) (v5 : Int32) : Option (Nat ⊕ (Int32 × teS)) :=
  bd1 (fX1_score 0 x1 v5 S) fun r_11 =>
  if v3 = (-9999 : Int32) then (
    q15 S v5 r_11 (v5 + (1 : Int32))
  ) else (
    if r_11 ≤ v4 then (
      q15 S v3 v4 (v5 + (1 : Int32))
    ) else (
      q15 S v5 r_11 (v5 + (1 : Int32))
    )
  )
def fX5_bestPartner_15 (x1 : Int32) (x2 : Int32) : Nat → teS → Int32 → Int32 → Int32 → Option (Nat ⊕ (Int32 × teS))
  | 0, _, _, _, _ => none
  | n + 1, S, v3, v4, v5 =>
    if (S 0 0) ≤ v5 then (
      some (.inr (v3, S))
    ) else (
      bd1 (fX1_fit 0 x1 v5 S) fun r_4 =>
      if r_4 = 0 then (
        fX5_bestPartner_15 x1 x2 n S v3 v4 (v5 + (1 : Int32))
      ) else (
        if x2 = 0 then (
          fX5_bestPartner_56 x1 x2 (fX5_bestPartner_15 x1 x2 n) S v3 v4 v5
        ) else (
          bd1 (fX1_isFree 0 v5 S) fun r_8 =>
          if r_8 = 0 then (
            fX5_bestPartner_15 x1 x2 n S v3 v4 (v5 + (1 : Int32))
          ) else (
            fX5_bestPartner_56 x1 x2 (fX5_bestPartner_15 x1 x2 n) S v3 v4 v5
          )
        )
      )
    )
def fX5_bestPartner (x1 : Int32) (x2 : Int32) (S : teS) : Option (Nat ⊕ (Int32 × teS)) :=
  bx1 (fX5_requireMember x1 S) fun _ =>
  fX5_bestPartner_15 x1 x2 2000 S (-9999 : Int32) (0 : Int32) (0 : Int32)
def fX5_best (x1 : Int32) (S : teS) : Option (Nat ⊕ (Int32 × teS)) :=
  bx1 (fX5_requireRange x1 (0 : Int32) (1 : Int32) S) fun _ =>
  bd1 (fX0_fill 0 S) fun S1 =>
  bd1 (fX0_rankOfAll 0 S1) fun r_5 =>
  if x1 = 0 then (
    bd1 (fX0_pairsOf r_5 S1) fun r_10 =>
    some (.inr (r_10, S1))
  ) else (
    bd1 (fX0_sumOf r_5 S1) fun r_8 =>
    some (.inr (r_8, S1))
  )
def fX5_missedMost_19 : Nat → teS → Int32 → Int32 → Int32 → Option (Int32 × teS)
  | 0, _, _, _, _ => none
  | n + 1, S1, v1, v2, v3 =>
    if (S1 0 0) ≤ v3 then (
      some (v1, S1)
    ) else (
      bd1 (fX0_rankWithout 0 v3 S1) fun r_4 =>
      if v1 = (-9999 : Int32) then (
        fX5_missedMost_19 n S1 v3 r_4 (v3 + (1 : Int32))
      ) else (
        if v2 ≤ r_4 then (
          fX5_missedMost_19 n S1 v1 v2 (v3 + (1 : Int32))
        ) else (
          fX5_missedMost_19 n S1 v3 r_4 (v3 + (1 : Int32))
        )
      )
    )
def fX5_missedMost (S : teS) : Option (Int32 × teS) :=
  bd1 (fX0_fill 0 S) fun S1 =>
  fX5_missedMost_19 2000 S1 (-9999 : Int32) (0 : Int32) (0 : Int32)
def fX5_ahead_42 (x1 : Int32) (x2 : Int32) (x3 : Int32) (x4 : Int32) : Nat → teS → Int32 → Option (Nat ⊕ (Int32 × teS))
  | 0, _, _ => none
  | n + 1, S1, v5 =>
    if x2 ≤ v5 then (
      bd1 (fX1_numberOf 1 x1 x4 S1) fun r_12 =>
      some (.inr (r_12, S1))
    ) else (
      bd1 (fX1_passWeek 1 x3 S1) fun S2 =>
      fX5_ahead_42 x1 x2 x3 x4 n S2 (v5 + (1 : Int32))
    )
def fX5_ahead (x1 : Int32) (x2 : Int32) (x3 : Int32) (x4 : Int32) (S : teS) : Option (Nat ⊕ (Int32 × teS)) :=
  bx1 (fX5_requireMember x1 S) fun _ =>
  bx1 (fX5_requireRange x2 (0 : Int32) (60 : Int32) S) fun _ =>
  bx1 (fX5_requireRange x3 (0 : Int32) (511 : Int32) S) fun _ =>
  bx1 (fX5_requireRange x4 (0 : Int32) (10 : Int32) S) fun _ =>
  bd1 (fX1_copyFrom 1 0 S) fun S1 =>
  fX5_ahead_42 x1 x2 x3 x4 2000 S1 (0 : Int32)
def fX5_levelAfter_25 (x1 : Int32) (x2 : Int32) : Nat → teS → Int32 → Option (Nat ⊕ (Int32 × teS))
  | 0, _, _ => none
  | n + 1, S1, v3 =>
    if (100 : Int32) < v3 then (
      some (.inr ((-9999 : Int32), S1))
    ) else (
      chk (tein x1 9) <|
      bd1 (fX3_wantedLevel 1 x1.toNatClampNeg S1) fun r_9 =>
      if r_9 < x2 then (
        bd2 (fX1_matchFree 1 S1) fun r_12 S2 =>
        bd1 (fX1_passWeek 1 (0 : Int32) S2) fun S3 =>
        fX5_levelAfter_25 x1 x2 n S3 (v3 + (1 : Int32))
      ) else (
        some (.inr (v3, S1))
      )
    )
def fX5_levelAfter (x1 : Int32) (x2 : Int32) (S : teS) : Option (Nat ⊕ (Int32 × teS)) :=
  bx1 (fX5_requireMember x1 S) fun _ =>
  bx1 (fX5_requireRange x2 (0 : Int32) (9 : Int32) S) fun _ =>
  bd1 (fX1_copyFrom 1 0 S) fun S1 =>
  fX5_levelAfter_25 x1 x2 2000 S1 (0 : Int32)
def fX5_partsAfter_31 (x1 : Int32) (x2 : Int32) : Nat → teS → Int32 → Option (Nat ⊕ (Int32 × teS))
  | 0, _, _ => none
  | n + 1, S1, v3 =>
    if (100 : Int32) < v3 then (
      some (.inr ((-9999 : Int32), S1))
    ) else (
      bd1 (fX1_passWeek 1 x2 S1) fun S2 =>
      bd1 (fX1_isFree 1 x1 S2) fun r_12 =>
      if r_12 = 0 then (
        fX5_partsAfter_31 x1 x2 n S2 (v3 + (1 : Int32))
      ) else (
        some (.inr (v3, S2))
      )
    )
def fX5_partsAfter (x1 : Int32) (x2 : Int32) (S : teS) : Option (Nat ⊕ (Int32 × teS)) :=
  bx1 (fX5_requireMember x1 S) fun _ =>
  bx1 (fX5_requireRange x2 (0 : Int32) (511 : Int32) S) fun _ =>
  bx1 (fX5_requirePartner x1 S) fun _ =>
  bd1 (fX1_copyFrom 1 0 S) fun S1 =>
  fX5_partsAfter_31 x1 x2 2000 S1 (1 : Int32)
def fX5_withoutLowestGroups_5 (x0 : Int64) (x2 : Int32) : Nat → teS → Int64 → Int32 → Option Int64
  | 0, _, _, _ => none
  | n + 1, S, v3, v5 =>
    if x2 ≤ v5 then (
      some v3
    ) else (
      fX5_withoutLowestGroups_5 x0 x2 n S (v3 / (10000 : Int64)) (v5 + (1 : Int32))
    )
def fX5_withoutLowestGroups (x0 : Int64) (x2 : Int32) (S : teS) : Option Int64 :=
  fX5_withoutLowestGroups_5 x0 x2 2000 S x0 (0 : Int32)
def fX5_commandSucceeds (x1 : Int32) (S : teS) : Option (Int32 × teS) :=
  if (x1 / (1000 : Int32)) = (1 : Int32) then (
    if (x1 - x1 / (10 : Int32) * (10 : Int32)) = 0 then (
      bd1 (fX1_has 1 ((x1 / (100 : Int32)) - (x1 / (100 : Int32)) / (10 : Int32) * (10 : Int32)) S) fun r_3 =>
      if r_3 = 0 then (
        some ((0 : Int32), S)
      ) else (
        bd1 (fX1_has 1 ((x1 / (10 : Int32)) - (x1 / (10 : Int32)) / (10 : Int32) * (10 : Int32)) S) fun r_6 =>
        if r_6 = 0 then (
          some ((0 : Int32), S)
        ) else (
          if ((x1 / (100 : Int32)) - (x1 / (100 : Int32)) / (10 : Int32) * (10 : Int32)) = ((x1 / (10 : Int32)) - (x1 / (10 : Int32)) / (10 : Int32) * (10 : Int32)) then (
            some ((0 : Int32), S)
          ) else (
            bd1 (fX1_canBecomePartners 1 ((x1 / (100 : Int32)) - (x1 / (100 : Int32)) / (10 : Int32) * (10 : Int32)) ((x1 / (10 : Int32)) - (x1 / (10 : Int32)) / (10 : Int32) * (10 : Int32)) S) fun r_10 =>
            if r_10 = 0 then (
              some ((0 : Int32), S)
            ) else (
              bd1 (fX1_unite 1 ((x1 / (100 : Int32)) - (x1 / (100 : Int32)) / (10 : Int32) * (10 : Int32)) ((x1 / (10 : Int32)) - (x1 / (10 : Int32)) / (10 : Int32) * (10 : Int32)) S) fun S1 =>
              some ((1 : Int32), S1)
            )
          )
        )
      )
    ) else (
      some ((0 : Int32), S)
    )
  ) else (
  if (x1 / (1000 : Int32)) = (2 : Int32) then (
    if ((x1 / (10 : Int32)) - (x1 / (10 : Int32)) / (10 : Int32) * (10 : Int32)) = 0 then (
      if (x1 - x1 / (10 : Int32) * (10 : Int32)) = 0 then (
        bd1 (fX1_has 1 ((x1 / (100 : Int32)) - (x1 / (100 : Int32)) / (10 : Int32) * (10 : Int32)) S) fun r_18 =>
        if r_18 = 0 then (
          some ((0 : Int32), S)
        ) else (
          bd1 (fX1_isFree 1 ((x1 / (100 : Int32)) - (x1 / (100 : Int32)) / (10 : Int32) * (10 : Int32)) S) fun r_21 =>
          if r_21 = 0 then (
            bd1 (fX1_separate 1 ((x1 / (100 : Int32)) - (x1 / (100 : Int32)) / (10 : Int32) * (10 : Int32)) S) fun S2 =>
            some ((1 : Int32), S2)
          ) else (
            some ((0 : Int32), S)
          )
        )
      ) else (
        some ((0 : Int32), S)
      )
    ) else (
      some ((0 : Int32), S)
    )
  ) else (
  if (x1 / (1000 : Int32)) = (3 : Int32) then (
    if ((x1 / (100 : Int32)) - (x1 / (100 : Int32)) / (10 : Int32) * (10 : Int32)) = 0 then (
      if ((x1 / (10 : Int32)) - (x1 / (10 : Int32)) / (10 : Int32) * (10 : Int32)) = 0 then (
        if (x1 - x1 / (10 : Int32) * (10 : Int32)) = 0 then (
          bd2 (fX1_matchFree 1 S) fun r_30 S3 =>
          some ((1 : Int32), S3)
        ) else (
          some ((0 : Int32), S)
        )
      ) else (
        some ((0 : Int32), S)
      )
    ) else (
      some ((0 : Int32), S)
    )
  ) else (
  if (x1 / (1000 : Int32)) = (4 : Int32) then (
    if ((x1 / (100 : Int32)) - (x1 / (100 : Int32)) / (10 : Int32) * (10 : Int32)) = 0 then (
      if (((10 : Int32) * ((x1 / (10 : Int32)) - (x1 / (10 : Int32)) / (10 : Int32) * (10 : Int32))) + (x1 - x1 / (10 : Int32) * (10 : Int32))) < (1 : Int32) then (
        some ((0 : Int32), S)
      ) else (
        if (((10 : Int32) * ((x1 / (10 : Int32)) - (x1 / (10 : Int32)) / (10 : Int32) * (10 : Int32))) + (x1 - x1 / (10 : Int32) * (10 : Int32))) ≤ (50 : Int32) then (
          bd2 (fX1_settleBy 1 (((10 : Int32) * ((x1 / (10 : Int32)) - (x1 / (10 : Int32)) / (10 : Int32) * (10 : Int32))) + (x1 - x1 / (10 : Int32) * (10 : Int32))) S) fun r_36 S4 =>
          some ((1 : Int32), S4)
        ) else (
          some ((0 : Int32), S)
        )
      )
    ) else (
      some ((0 : Int32), S)
    )
  ) else (
  if (x1 / (1000 : Int32)) = (5 : Int32) then (
    if ((((100 : Int32) * ((x1 / (100 : Int32)) - (x1 / (100 : Int32)) / (10 : Int32) * (10 : Int32))) + ((10 : Int32) * ((x1 / (10 : Int32)) - (x1 / (10 : Int32)) / (10 : Int32) * (10 : Int32)))) + (x1 - x1 / (10 : Int32) * (10 : Int32))) ≤ (511 : Int32) then (
      bd1 (fX1_passWeek 1 ((((100 : Int32) * ((x1 / (100 : Int32)) - (x1 / (100 : Int32)) / (10 : Int32) * (10 : Int32))) + ((10 : Int32) * ((x1 / (10 : Int32)) - (x1 / (10 : Int32)) / (10 : Int32) * (10 : Int32)))) + (x1 - x1 / (10 : Int32) * (10 : Int32))) S) fun S5 =>
      some ((1 : Int32), S5)
    ) else (
      some ((0 : Int32), S)
    )
  ) else (
  if (x1 / (1000 : Int32)) = (6 : Int32) then (
    bd1 (fX1_has 1 ((x1 / (100 : Int32)) - (x1 / (100 : Int32)) / (10 : Int32) * (10 : Int32)) S) fun r_43 =>
    if r_43 = 0 then (
      some ((0 : Int32), S)
    ) else (
      if ((x1 / (10 : Int32)) - (x1 / (10 : Int32)) / (10 : Int32) * (10 : Int32)) < (4 : Int32) then (
        bd1 (fX1_grade 1 ((x1 / (100 : Int32)) - (x1 / (100 : Int32)) / (10 : Int32) * (10 : Int32)) ((x1 / (10 : Int32)) - (x1 / (10 : Int32)) / (10 : Int32) * (10 : Int32)) ((10 : Int32) * (x1 - x1 / (10 : Int32) * (10 : Int32))) S) fun S6 =>
        some ((1 : Int32), S6)
      ) else (
        some ((0 : Int32), S)
      )
    )
  ) else (
  if (x1 / (1000 : Int32)) = (7 : Int32) then (
    if (x1 - x1 / (10 : Int32) * (10 : Int32)) = 0 then (
      bd1 (fX1_has 1 ((x1 / (100 : Int32)) - (x1 / (100 : Int32)) / (10 : Int32) * (10 : Int32)) S) fun r_51 =>
      if r_51 = 0 then (
        some ((0 : Int32), S)
      ) else (
        bd1 (fX1_has 1 ((x1 / (10 : Int32)) - (x1 / (10 : Int32)) / (10 : Int32) * (10 : Int32)) S) fun r_54 =>
        if r_54 = 0 then (
          some ((0 : Int32), S)
        ) else (
          chk (tein ((x1 / (100 : Int32)) - (x1 / (100 : Int32)) / (10 : Int32) * (10 : Int32)) 9) <|
          if (S 1 (2 + 10 * ((x1 / (100 : Int32)) - (x1 / (100 : Int32)) / (10 : Int32) * (10 : Int32)).toNatClampNeg + 8)) = ((x1 / (10 : Int32)) - (x1 / (10 : Int32)) / (10 : Int32) * (10 : Int32)) then (
            some ((1 : Int32), S)
          ) else (
            some ((0 : Int32), S)
          )
        )
      )
    ) else (
      some ((0 : Int32), S)
    )
  ) else (
  if (x1 / (1000 : Int32)) = (8 : Int32) then (
    if ((x1 / (100 : Int32)) - (x1 / (100 : Int32)) / (10 : Int32) * (10 : Int32)) = 0 then (
      if ((x1 / (10 : Int32)) - (x1 / (10 : Int32)) / (10 : Int32) * (10 : Int32)) = 0 then (
        bd1 (fX1_countPairs 1 S) fun r_62 =>
        if r_62 = (x1 - x1 / (10 : Int32) * (10 : Int32)) then (
          some ((1 : Int32), S)
        ) else (
          some ((0 : Int32), S)
        )
      ) else (
        some ((0 : Int32), S)
      )
    ) else (
      some ((0 : Int32), S)
    )
  ) else (
  if (x1 / (1000 : Int32)) = (9 : Int32) then (
    bd1 (fX1_has 1 ((x1 / (100 : Int32)) - (x1 / (100 : Int32)) / (10 : Int32) * (10 : Int32)) S) fun r_66 =>
    if r_66 = 0 then (
      some ((0 : Int32), S)
    ) else (
      if (4 : Int32) ≤ ((x1 / (10 : Int32)) - (x1 / (10 : Int32)) / (10 : Int32) * (10 : Int32)) then (
        some ((0 : Int32), S)
      ) else (
        chk (tein ((x1 / (100 : Int32)) - (x1 / (100 : Int32)) / (10 : Int32) * (10 : Int32)) 9) <|
        chk (tein ((x1 / (10 : Int32)) - (x1 / (10 : Int32)) / (10 : Int32) * (10 : Int32)) 4) <|
        if (S 1 (2 + 10 * ((x1 / (100 : Int32)) - (x1 / (100 : Int32)) / (10 : Int32) * (10 : Int32)).toNatClampNeg + ((x1 / (10 : Int32)) - (x1 / (10 : Int32)) / (10 : Int32) * (10 : Int32)).toNatClampNeg)) = (x1 - x1 / (10 : Int32) * (10 : Int32)) then (
          some ((1 : Int32), S)
        ) else (
          some ((0 : Int32), S)
        )
      )
    )
  ) else (
    some ((0 : Int32), S)
  )))))))))
def fX5_runScript_46 (x1 : Int32) (x2 : Int64) : Nat → teS → Int32 → Option (Nat ⊕ (Int32 × teS))
  | 0, _, _ => none
  | n + 1, S1, v4 =>
    if x1 ≤ v4 then (
      some (.inr ((-9999 : Int32), S1))
    ) else (
      bd1 (fX5_withoutLowestGroups x2 ((x1 - (1 : Int32)) - v4) S1) fun r_10 =>
      bd2 (fX5_commandSucceeds (((r_10 - r_10 / (10000 : Int64) * (10000 : Int64))).toInt32) S1) fun r_12 S2 =>
      if r_12 = 0 then (
        some (.inr (v4, S2))
      ) else (
        fX5_runScript_46 x1 x2 n S2 (v4 + (1 : Int32))
      )
    )
def fX5_runScript (x1 : Int32) (x2 : Int64) (S : teS) : Option (Nat ⊕ (Int32 × teS)) :=
  bx1 (fX5_requireRange x1 (1 : Int32) (4 : Int32) S) fun _ =>
  if (lg_cmp x2 (0 : Int64)) < 0 then (
    some (.inl 1)
  ) else (
    bd1 (fX5_withoutLowestGroups x2 x1 S) fun r_4 =>
    if (lg_cmp r_4 (0 : Int64)) = 0 then (
      bd1 (fX1_copyFrom 1 0 S) fun S1 =>
      fX5_runScript_46 x1 x2 2000 S1 (0 : Int32)
    ) else (
      some (.inl 1)
    )
  )
def fX5_simulate_65 (x1 : Int64) (x3 : Int32) (q24 : teS → Int64 → Int32 → Option (Nat ⊕ (Int32 × teS))) (S1 : teS) (v4 : Int64) (v6 : Int32) (v7 : Int32) : Option (Nat ⊕ (Int32 × teS)) :=
  bd1 (fX1_passWeek 1 ((v7 / (4 : Int32)) - (v7 / (4 : Int32)) / (512 : Int32) * (512 : Int32)) S1) fun S2 =>
  q24 S2 v4 (v6 + (1 : Int32))
def fX5_simulate_24 (x1 : Int64) (x3 : Int32) : Nat → teS → Int64 → Int32 → Option (Nat ⊕ (Int32 × teS))
  | 0, _, _, _ => none
  | n + 1, S1, v4, v6 =>
    if x3 ≤ v6 then (
      bd1 (fX1_sumOfCredits 1 S1) fun r_6 =>
      some (.inr (r_6, S1))
    ) else (
      if ((((((v4 * (6364136223846793005 : Int64)) + (1442695040888963407 : Int64))).toUInt64 >>> (((33 : Int32)).toInt64.toUInt64 &&& Int64.toUInt64 63)).toInt64).toInt32 - (((((v4 * (6364136223846793005 : Int64)) + (1442695040888963407 : Int64))).toUInt64 >>> (((33 : Int32)).toInt64.toUInt64 &&& Int64.toUInt64 63)).toInt64).toInt32 / (4 : Int32) * (4 : Int32)) = 0 then (
        bd2 (fX1_matchFree 1 S1) fun r_9 S2 =>
        fX5_simulate_65 x1 x3 (fX5_simulate_24 x1 x3 n) S2 ((v4 * (6364136223846793005 : Int64)) + (1442695040888963407 : Int64)) v6 (((((v4 * (6364136223846793005 : Int64)) + (1442695040888963407 : Int64))).toUInt64 >>> (((33 : Int32)).toInt64.toUInt64 &&& Int64.toUInt64 63)).toInt64).toInt32
      ) else (
        fX5_simulate_65 x1 x3 (fX5_simulate_24 x1 x3 n) S1 ((v4 * (6364136223846793005 : Int64)) + (1442695040888963407 : Int64)) v6 (((((v4 * (6364136223846793005 : Int64)) + (1442695040888963407 : Int64))).toUInt64 >>> (((33 : Int32)).toInt64.toUInt64 &&& Int64.toUInt64 63)).toInt64).toInt32
      )
    )
def fX5_simulate (x1 : Int64) (x3 : Int32) (S : teS) : Option (Nat ⊕ (Int32 × teS)) :=
  bx1 (fX5_requireRange x3 (1 : Int32) (60 : Int32) S) fun _ =>
  bd1 (fX1_copyFrom 1 0 S) fun S1 =>
  fX5_simulate_24 x1 x3 2000 S1 x1 (0 : Int32)
def fX5_requireSlot (x0 : Int32) (S : teS) : Option (Nat ⊕ Unit) :=
  if x0 < 0 then (
    some (.inl 3)
  ) else (
    if x0 < (2 : Int32) then (
      some (.inr ())
    ) else (
      some (.inl 3)
    )
  )
def fX5_save (x1 : Int32) (S : teS) : Option (Nat ⊕ (Int32 × teS)) :=
  bx1 (fX5_requireSlot x1 S) fun _ =>
  chk (tein x1 2) <|
  bd1 (fX1_copyFrom (16 + x1.toNatClampNeg) 0 S) fun S1 =>
  lt1 (teu S1 366 x1.toNatClampNeg (vp_nar .boolean (1 : Int32))) fun S2 =>
  some (.inr ((S2 0 1), S2))
def fX5_restore (x1 : Int32) (S : teS) : Option (Nat ⊕ (Int32 × teS)) :=
  bx1 (fX5_requireSlot x1 S) fun _ =>
  chk (tein x1 2) <|
  if (S 366 x1.toNatClampNeg) = 0 then (
    some (.inl 2)
  ) else (
    bd1 (fX1_copyFrom 0 (16 + x1.toNatClampNeg) S) fun S1 =>
    bd1 (fX2_forget S1) fun S2 =>
    some (.inr ((S2 0 1), S2))
  )
def fL_tryAppend (x1 : Int32) (S : teS) : Option (Int32 × teS) :=
  bxw (fX5_append x1 S) (fun e_1 =>
    if e_1 = 1 then (
      some ((-99002 : Int32), S)
    ) else (
    if e_1 = 2 then (
      some ((-99003 : Int32), S)
    ) else (
      none))) fun r_3 S1 =>
  some (r_3, S1)
def fL_tryLoad (S : teS) : Option (Int32 × teS) :=
  bxw (fX5_load S) (fun e_1 =>
    if e_1 = 2 then (
      some ((-99003 : Int32), S)
    ) else (
      none)) fun r_3 S1 =>
  some (r_3, S1)
def fL_tryAbout (x1 : Int32) (S : teS) : Option (Int32 × teS) :=
  bxw (fX5_about x1 S) (fun e_1 =>
    if e_1 = 1 then (
      some ((-99002 : Int32), S)
    ) else (
      none)) fun r_3 S1 =>
  some (r_3, S1)
def fL_tryMember (x1 : Int32) (x2 : Int32) (S : teS) : Option (Int32 × teS) :=
  bxw (fX5_member x1 x2 S) (fun e_1 =>
    if e_1 = 3 then (
      some ((-99001 : Int32), S)
    ) else (
    if e_1 = 1 then (
      some ((-99002 : Int32), S)
    ) else (
      none))) fun r_3 S1 =>
  some (r_3, S1)
def fL_tryBoth (x1 : Int32) (x2 : Int32) (x3 : Int32) (S : teS) : Option (Int32 × teS) :=
  bxw (fX5_both x1 x2 x3 S) (fun e_1 =>
    if e_1 = 3 then (
      some ((-99001 : Int32), S)
    ) else (
    if e_1 = 1 then (
      some ((-99002 : Int32), S)
    ) else (
      none))) fun r_3 S1 =>
  some (r_3, S1)
def fL_tryJoin (x1 : Int32) (x2 : Int32) (x3 : Int32) (S : teS) : Option (Int32 × teS) :=
  bxw (fX5_join x1 x2 x3 S) (fun e_1 =>
    if e_1 = 1 then (
      some ((-99002 : Int32), S)
    ) else (
    if e_1 = 2 then (
      some ((-99003 : Int32), S)
    ) else (
      none))) fun r_3 S1 =>
  some (r_3, S1)
def fL_tryLeave (x1 : Int32) (S : teS) : Option (Int32 × teS) :=
  bxw (fX5_leave x1 S) (fun e_1 =>
    if e_1 = 3 then (
      some ((-99001 : Int32), S)
    ) else (
      none)) fun r_3 S1 =>
  some (r_3, S1)
def fL_tryWant (x1 : Int32) (x2 : Int32) (S : teS) : Option (Int32 × teS) :=
  bxw (fX5_want x1 x2 S) (fun e_1 =>
    if e_1 = 3 then (
      some ((-99001 : Int32), S)
    ) else (
    if e_1 = 1 then (
      some ((-99002 : Int32), S)
    ) else (
      none))) fun r_3 S1 =>
  some (r_3, S1)
def fL_tryTest (x1 : Int32) (x2 : Int32) (x3 : Int32) (S : teS) : Option (Int32 × teS) :=
  bxw (fX5_test x1 x2 x3 S) (fun e_1 =>
    if e_1 = 3 then (
      some ((-99001 : Int32), S)
    ) else (
    if e_1 = 1 then (
      some ((-99002 : Int32), S)
    ) else (
      none))) fun r_3 S1 =>
  some (r_3, S1)
def fL_tryPair (x1 : Int32) (x2 : Int32) (S : teS) : Option (Int32 × teS) :=
  bxw (fX5_pair x1 x2 S) (fun e_1 =>
    if e_1 = 3 then (
      some ((-99001 : Int32), S)
    ) else (
    if e_1 = 1 then (
      some ((-99002 : Int32), S)
    ) else (
    if e_1 = 2 then (
      some ((-99003 : Int32), S)
    ) else (
      none)))) fun r_3 S1 =>
  some (r_3, S1)
def fL_tryPart (x1 : Int32) (S : teS) : Option (Int32 × teS) :=
  bxw (fX5_part x1 S) (fun e_1 =>
    if e_1 = 3 then (
      some ((-99001 : Int32), S)
    ) else (
    if e_1 = 2 then (
      some ((-99003 : Int32), S)
    ) else (
      none))) fun r_3 S1 =>
  some (r_3, S1)
def fL_trySettle (x1 : Int32) (S : teS) : Option (Int32 × teS) :=
  bxw (fX5_settle x1 S) (fun e_1 =>
    if e_1 = 1 then (
      some ((-99002 : Int32), S)
    ) else (
      none)) fun r_3 S1 =>
  some (r_3, S1)
def fL_tryWeek (x1 : Int32) (S : teS) : Option (Int32 × teS) :=
  bxw (fX5_week x1 S) (fun e_1 =>
    if e_1 = 1 then (
      some ((-99002 : Int32), S)
    ) else (
      none)) fun r_3 S1 =>
  some (r_3, S1)
def fL_tryUndo (S : teS) : Option (Int32 × teS) :=
  bxw (fX5_undo S) (fun e_1 =>
    if e_1 = 2 then (
      some ((-99003 : Int32), S)
    ) else (
      none)) fun r_3 S1 =>
  some (r_3, S1)
def fL_tryBlocking (x1 : Int32) (x2 : Int32) (S : teS) : Option (Int32 × teS) :=
  bxw (fX5_blocking x1 x2 S) (fun e_1 =>
    if e_1 = 1 then (
      some ((-99002 : Int32), S)
    ) else (
      none)) fun r_3 S1 =>
  some (r_3, S1)
def fL_tryBestPartner (x1 : Int32) (x2 : Int32) (S : teS) : Option (Int32 × teS) :=
  bxw (fX5_bestPartner x1 x2 S) (fun e_1 =>
    if e_1 = 3 then (
      some ((-99001 : Int32), S)
    ) else (
      none)) fun r_3 S1 =>
  some (r_3, S1)
def fL_tryBest (x1 : Int32) (S : teS) : Option (Int32 × teS) :=
  bxw (fX5_best x1 S) (fun e_1 =>
    if e_1 = 1 then (
      some ((-99002 : Int32), S)
    ) else (
      none)) fun r_3 S1 =>
  some (r_3, S1)
def fL_tryAhead (x1 : Int32) (x2 : Int32) (x3 : Int32) (x4 : Int32) (S : teS) : Option (Int32 × teS) :=
  bxw (fX5_ahead x1 x2 x3 x4 S) (fun e_1 =>
    if e_1 = 3 then (
      some ((-99001 : Int32), S)
    ) else (
    if e_1 = 1 then (
      some ((-99002 : Int32), S)
    ) else (
      none))) fun r_3 S1 =>
  some (r_3, S1)
def fL_tryLevelAfter (x1 : Int32) (x2 : Int32) (S : teS) : Option (Int32 × teS) :=
  bxw (fX5_levelAfter x1 x2 S) (fun e_1 =>
    if e_1 = 3 then (
      some ((-99001 : Int32), S)
    ) else (
    if e_1 = 1 then (
      some ((-99002 : Int32), S)
    ) else (
      none))) fun r_3 S1 =>
  some (r_3, S1)
def fL_tryPartsAfter (x1 : Int32) (x2 : Int32) (S : teS) : Option (Int32 × teS) :=
  bxw (fX5_partsAfter x1 x2 S) (fun e_1 =>
    if e_1 = 3 then (
      some ((-99001 : Int32), S)
    ) else (
    if e_1 = 1 then (
      some ((-99002 : Int32), S)
    ) else (
    if e_1 = 2 then (
      some ((-99003 : Int32), S)
    ) else (
      none)))) fun r_3 S1 =>
  some (r_3, S1)
def fL_tryScript (x1 : Int32) (x2 : Int64) (S : teS) : Option (Int32 × teS) :=
  bxw (fX5_runScript x1 x2 S) (fun e_1 =>
    if e_1 = 1 then (
      some ((-99002 : Int32), S)
    ) else (
      none)) fun r_3 S1 =>
  some (r_3, S1)
def fL_trySimulate (x1 : Int64) (x3 : Int32) (S : teS) : Option (Int32 × teS) :=
  bxw (fX5_simulate x1 x3 S) (fun e_1 =>
    if e_1 = 1 then (
      some ((-99002 : Int32), S)
    ) else (
      none)) fun r_3 S1 =>
  some (r_3, S1)
def fL_trySave (x1 : Int32) (S : teS) : Option (Int32 × teS) :=
  bxw (fX5_save x1 S) (fun e_1 =>
    if e_1 = 3 then (
      some ((-99001 : Int32), S)
    ) else (
      none)) fun r_3 S1 =>
  some (r_3, S1)
def fL_tryRestore (x1 : Int32) (S : teS) : Option (Int32 × teS) :=
  bxw (fX5_restore x1 S) (fun e_1 =>
    if e_1 = 3 then (
      some ((-99001 : Int32), S)
    ) else (
    if e_1 = 2 then (
      some ((-99003 : Int32), S)
    ) else (
      none))) fun r_3 S1 =>
  some (r_3, S1)
