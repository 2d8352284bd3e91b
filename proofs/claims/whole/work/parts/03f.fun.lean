def fX1_lead (k0 : Nat) (x1 : Int32) (x2 : Int32) (S : teS) : Option Int32 :=
  chk (tein x1 9) <|
  chk (tein x2 9) <|
  chk (tein (S k0 (2 + 10 * x1.toNatClampNeg + 4)) 4) <|
  some ((S k0 (2 + 10 * x2.toNatClampNeg + (S k0 (2 + 10 * x1.toNatClampNeg + 4)).toNatClampNeg)) - (S k0 (2 + 10 * x1.toNatClampNeg + (S k0 (2 + 10 * x1.toNatClampNeg + 4)).toNatClampNeg)))
def fX1_fit (k0 : Nat) (x1 : Int32) (x2 : Int32) (S : teS) : Option Int32 :=
  bd1 (fX1_lead k0 x1 x2 S) fun r_1 =>
  if r_1 < (2 : Int32) then (
    some (0 : Int32)
  ) else (
    bd1 (fX1_lead k0 x2 x1 S) fun r_4 =>
    if r_4 < (2 : Int32) then (
      some (0 : Int32)
    ) else (
      some (1 : Int32)
    )
  )
def fJ9_floorDiv_7cf53 (x0 : Int32) (x1 : Int32) (S : teS) : Option Int32 :=
  chk (decide (¬ x1 = 0)) <|
  if 0 ≤ (x0 ^^^ x1) then (
    some (x0 / x1)
  ) else (
    if ((x0 / x1) * x1) = x0 then (
      some (x0 / x1)
    ) else (
      some ((x0 / x1) - (1 : Int32))
    )
  )
def fX1_score (k0 : Nat) (x1 : Int32) (x2 : Int32) (S : teS) : Option Int32 :=
  chk (tein x2 9) <|
  bd1 (fX1_lead k0 x1 x2 S) fun r_2 =>
  bd1 (fJ9_floorDiv_7cf53 (S k0 (2 + 10 * x2.toNatClampNeg + 6)) (4 : Int32) S) fun r_4 =>
  some ((((10 : Int32) * r_2) - ((5 : Int32) * (S k0 (2 + 10 * x2.toNatClampNeg + 7)))) + r_4)
def fX1_value (k0 : Nat) (x1 : Int32) (x2 : Int32) (S : teS) : Option Int32 :=
  bd1 (fX1_score k0 x1 x2 S) fun r_1 =>
  bd1 (fX1_score k0 x2 x1 S) fun r_3 =>
  some (r_1 + r_3)
def fX0_rankWith_11 (k1 : Nat) (x2 : Int32) (x3 : Int32) : Nat → teS → Int32 → Int32 → Option Int32
  | 0, _, _, _ => none
  | n + 1, S, v4, v5 =>
    if x2 ≤ v5 then (
      some v4
    ) else (
      if ((x3 >>> (v5 &&& 31)) &&& (1 : Int32)) = (1 : Int32) then (
        bd1 (fX1_fit k1 v5 x2 S) fun r_4 =>
        if r_4 = 0 then (
          fX0_rankWith_11 k1 x2 x3 n S v4 (v5 + (1 : Int32))
        ) else (
          chk (tein (x3 &&& (((1 : Int32) <<< (v5 &&& 31)) ^^^ (-1 : Int32))) 512) <|
          bd1 (fX1_value k1 v5 x2 S) fun r_8 =>
          fX0_rankWith_11 k1 x2 x3 n S (if v4 < (((S 368 (x3 &&& (((1 : Int32) <<< (v5 &&& 31)) ^^^ (-1 : Int32))).toNatClampNeg) + (1000000 : Int32)) + r_8) then (((S 368 (x3 &&& (((1 : Int32) <<< (v5 &&& 31)) ^^^ (-1 : Int32))).toNatClampNeg) + (1000000 : Int32)) + r_8) else v4) (v5 + (1 : Int32))
        )
      ) else (
        fX0_rankWith_11 k1 x2 x3 n S v4 (v5 + (1 : Int32))
      )
    )
def fX0_rankWith (k1 : Nat) (x2 : Int32) (x3 : Int32) (S : teS) : Option Int32 :=
  chk (tein x3 512) <|
  fX0_rankWith_11 k1 x2 x3 2000 S (S 368 x3.toNatClampNeg) (0 : Int32)
def fX0_fill_24 (k1 : Nat) (q9 : teS → Int32 → Option teS) : Nat → teS → Int32 → Int32 → Int32 → Option teS
  | 0, _, _, _, _ => none
  | n + 1, S1, v2, v3, v4 =>
    if v3 ≤ v4 then (
      q9 S1 (v2 + (1 : Int32))
    ) else (
      bd1 (fX0_rankWith k1 v2 v4 S1) fun r_4 =>
      chk (tein (v3 ||| v4) 512) <|
      lt1 (teu S1 368 (v3 ||| v4).toNatClampNeg r_4) fun S2 =>
      fX0_fill_24 k1 q9 n S2 v2 v3 (v4 + (1 : Int32))
    )
def fX0_fill_9 (k1 : Nat) : Nat → teS → Int32 → Option teS
  | 0, _, _ => none
  | n + 1, S1, v2 =>
    if (S1 k1 0) ≤ v2 then (
      some S1
    ) else (
      fX0_fill_24 k1 (fX0_fill_9 k1 n) 2000 S1 v2 ((1 : Int32) <<< (v2 &&& 31)) (0 : Int32)
    )
def fX0_fill (k1 : Nat) (S : teS) : Option teS :=
  chk (tein (0 : Int32) 512) <|
  lt1 (teu S 368 (0 : Int32).toNatClampNeg (0 : Int32)) fun S1 =>
  fX0_fill_9 k1 2000 S1 (0 : Int32)
def fX0_rankOfAll (k1 : Nat) (S : teS) : Option Int32 :=
  chk (tein (((1 : Int32) <<< ((S k1 0) &&& 31)) - (1 : Int32)) 512) <|
  some (S 368 (((1 : Int32) <<< ((S k1 0) &&& 31)) - (1 : Int32)).toNatClampNeg)
def fX0_rankWithout (k1 : Nat) (x2 : Int32) (S : teS) : Option Int32 :=
  chk (tein ((((1 : Int32) <<< ((S k1 0) &&& 31)) - (1 : Int32)) &&& (((1 : Int32) <<< (x2 &&& 31)) ^^^ (-1 : Int32))) 512) <|
  some (S 368 ((((1 : Int32) <<< ((S k1 0) &&& 31)) - (1 : Int32)) &&& (((1 : Int32) <<< (x2 &&& 31)) ^^^ (-1 : Int32))).toNatClampNeg)
def fX0_pairsOf (x1 : Int32) (S : teS) : Option Int32 :=
  bd1 (fJ9_floorDiv_7cf53 (x1 + (500000 : Int32)) (1000000 : Int32) S) fun r_1 =>
  some r_1
def fX0_sumOf (x1 : Int32) (S : teS) : Option Int32 :=
  bd1 (fX0_pairsOf x1 S) fun r_1 =>
  some (x1 - (r_1 * (1000000 : Int32)))
def fX3_copyFrom (k0 : Nat) (m0 : Nat) (k1 : Nat) (m1 : Nat) (S : teS) : Option teS :=
  lt1 (tecp S k0 m0 k1 m1) fun S1 =>
  lt1 (teu S1 k0 (2 + 10 * m0 + 4) (S1 k1 (2 + 10 * m1 + 4))) fun S2 =>
  lt1 (teu S2 k0 (2 + 10 * m0 + 5) (S2 k1 (2 + 10 * m1 + 5))) fun S3 =>
  lt1 (teu S3 k0 (2 + 10 * m0 + 6) (S3 k1 (2 + 10 * m1 + 6))) fun S4 =>
  lt1 (teu S4 k0 (2 + 10 * m0 + 7) (S4 k1 (2 + 10 * m1 + 7))) fun S5 =>
  lt1 (teu S5 k0 (2 + 10 * m0 + 8) (S5 k1 (2 + 10 * m1 + 8))) fun S6 =>
  lt1 (teu S6 k0 (2 + 10 * m0 + 9) (S6 k1 (2 + 10 * m1 + 9))) fun S7 =>
  some S7
def fX1_copyFrom_2 (k0 : Nat) (k1 : Nat) : Nat → teS → Int32 → Option teS
  | 0, _, _ => none
  | n + 1, S1, v2 =>
    if (S1 k1 0) ≤ v2 then (
      lt1 (teu S1 k0 0 (S1 k1 0)) fun S2 =>
      lt1 (teu S2 k0 1 (S2 k1 1)) fun S3 =>
      some S3
    ) else (
      chk (tein v2 9) <|
      bd1 (fX3_copyFrom k0 v2.toNatClampNeg k1 v2.toNatClampNeg S1) fun S4 =>
      fX1_copyFrom_2 k0 k1 n S4 (v2 + (1 : Int32))
    )
def fX1_copyFrom (k0 : Nat) (k1 : Nat) (S : teS) : Option teS :=
  fX1_copyFrom_2 k0 k1 2000 S (0 : Int32)
def fX1_has (k0 : Nat) (x1 : Int32) (S : teS) : Option Int32 :=
  if x1 < 0 then (
    some (0 : Int32)
  ) else (
    if (S k0 0) ≤ x1 then (
      some (0 : Int32)
    ) else (
      some (1 : Int32)
    )
  )
def fX1_isFree (k0 : Nat) (x1 : Int32) (S : teS) : Option Int32 :=
  chk (tein x1 9) <|
  if (S k0 (2 + 10 * x1.toNatClampNeg + 8)) = (-9999 : Int32) then (
    some (1 : Int32)
  ) else (
    some (0 : Int32)
  )
def fX1_greaterPartner (k0 : Nat) (x1 : Int32) (S : teS) : Option Int32 :=
  chk (tein x1 9) <|
  bd1 (fX1_has k0 (S k0 (2 + 10 * x1.toNatClampNeg + 8)) S) fun r_2 =>
  if r_2 = 0 then (
    some (-9999 : Int32)
  ) else (
    if (S k0 (2 + 10 * x1.toNatClampNeg + 8)) ≤ x1 then (
      some (-9999 : Int32)
    ) else (
      some (S k0 (2 + 10 * x1.toNatClampNeg + 8))
    )
  )
def fX1_countFittingWith_4 (k0 : Nat) (x1 : Int32) : Nat → teS → Int32 → Int32 → Option Int32
  | 0, _, _, _ => none
  | n + 1, S, v2, v3 =>
    if (S k0 0) ≤ v3 then (
      some v2
    ) else (
      bd1 (fX1_fit k0 x1 v3 S) fun r_2 =>
      if r_2 = 0 then (
        fX1_countFittingWith_4 k0 x1 n S v2 (v3 + (1 : Int32))
      ) else (
        fX1_countFittingWith_4 k0 x1 n S (v2 + (1 : Int32)) (v3 + (1 : Int32))
      )
    )
def fX1_countFittingWith (k0 : Nat) (x1 : Int32) (S : teS) : Option Int32 :=
  fX1_countFittingWith_4 k0 x1 2000 S (0 : Int32) (0 : Int32)
def fX1_numberOf_23 (k0 : Nat) (x1 : Int32) (x2 : Int32) (S : teS) (n3 : Nat) : Option Int32 :=
  if x2 = (4 : Int32) then (
    some (S k0 (2 + 10 * n3 + 4))
  ) else (
  if x2 = (5 : Int32) then (
    some (S k0 (2 + 10 * n3 + 5))
  ) else (
  if x2 = (6 : Int32) then (
    some (S k0 (2 + 10 * n3 + 6))
  ) else (
  if x2 = (7 : Int32) then (
    some (S k0 (2 + 10 * n3 + 7))
  ) else (
  if x2 = (8 : Int32) then (
    some (S k0 (2 + 10 * n3 + 8))
  ) else (
  if x2 = (9 : Int32) then (
    bd1 (fX1_isFree k0 x1 S) fun r_11 =>
    if r_11 = 0 then (
      some (S k0 (2 + 10 * n3 + 9))
    ) else (
      some (-9999 : Int32)
    )
  ) else (
  if x2 = (10 : Int32) then (
    bd1 (fX1_countFittingWith k0 x1 S) fun r_15 =>
    some r_15
  ) else (
    some (-9999 : Int32)
  )))))))
def fX1_numberOf (k0 : Nat) (x1 : Int32) (x2 : Int32) (S : teS) : Option Int32 :=
  chk (tein x1 9) <|
  if x2 < 0 then (
    fX1_numberOf_23 k0 x1 x2 S x1.toNatClampNeg
  ) else (
    if (4 : Int32) ≤ x2 then (
      fX1_numberOf_23 k0 x1 x2 S x1.toNatClampNeg
    ) else (
      chk (tein x2 4) <|
      some (S k0 (2 + 10 * x1.toNatClampNeg + x2.toNatClampNeg))
    )
  )
def fX1_prefers (k0 : Nat) (x1 : Int32) (x2 : Int32) (S : teS) : Option Int32 :=
  chk (tein x1 9) <|
  bd1 (fX1_has k0 (S k0 (2 + 10 * x1.toNatClampNeg + 8)) S) fun r_2 =>
  if r_2 = 0 then (
    some (1 : Int32)
  ) else (
    bd1 (fX1_score k0 x1 (S k0 (2 + 10 * x1.toNatClampNeg + 8)) S) fun r_5 =>
    bd1 (fX1_score k0 x1 x2 S) fun r_7 =>
    if r_7 ≤ r_5 then (
      some (0 : Int32)
    ) else (
      some (1 : Int32)
    )
  )
def fX1_block (k0 : Nat) (x1 : Int32) (x2 : Int32) (S : teS) : Option Int32 :=
  chk (tein x1 9) <|
  if (S k0 (2 + 10 * x1.toNatClampNeg + 8)) = x2 then (
    some (0 : Int32)
  ) else (
    bd1 (fX1_fit k0 x1 x2 S) fun r_3 =>
    if r_3 = 0 then (
      some (0 : Int32)
    ) else (
      bd1 (fX1_prefers k0 x1 x2 S) fun r_6 =>
      if r_6 = 0 then (
        some (0 : Int32)
      ) else (
        bd1 (fX1_prefers k0 x2 x1 S) fun r_9 =>
        if r_9 = 0 then (
          some (0 : Int32)
        ) else (
          some (1 : Int32)
        )
      )
    )
  )
def fX1_canBecomePartners (k0 : Nat) (x1 : Int32) (x2 : Int32) (S : teS) : Option Int32 :=
  bd1 (fX1_isFree k0 x1 S) fun r_1 =>
  if r_1 = 0 then (
    some (0 : Int32)
  ) else (
    bd1 (fX1_isFree k0 x2 S) fun r_4 =>
    if r_4 = 0 then (
      some (0 : Int32)
    ) else (
      bd1 (fX1_fit k0 x1 x2 S) fun r_7 =>
      if r_7 = 0 then (
        some (0 : Int32)
      ) else (
        some (1 : Int32)
      )
    )
  )
def fX1_countPairs_4 (k0 : Nat) : Nat → teS → Int32 → Int32 → Option Int32
  | 0, _, _, _ => none
  | n + 1, S, v1, v2 =>
    if (S k0 0) ≤ v2 then (
      some v1
    ) else (
      bd1 (fX1_greaterPartner k0 v2 S) fun r_2 =>
      if r_2 = (-9999 : Int32) then (
        fX1_countPairs_4 k0 n S v1 (v2 + (1 : Int32))
      ) else (
        fX1_countPairs_4 k0 n S (v1 + (1 : Int32)) (v2 + (1 : Int32))
      )
    )
def fX1_countPairs (k0 : Nat) (S : teS) : Option Int32 :=
  fX1_countPairs_4 k0 2000 S (0 : Int32) (0 : Int32)
def fX1_sumOfValues_4 (k0 : Nat) : Nat → teS → Int32 → Int32 → Option Int32
  | 0, _, _, _ => none
  | n + 1, S, v1, v2 =>
    if (S k0 0) ≤ v2 then (
      some v1
    ) else (
      bd1 (fX1_greaterPartner k0 v2 S) fun r_2 =>
      if r_2 = (-9999 : Int32) then (
        fX1_sumOfValues_4 k0 n S v1 (v2 + (1 : Int32))
      ) else (
        bd1 (fX1_value k0 v2 r_2 S) fun r_5 =>
        fX1_sumOfValues_4 k0 n S (v1 + r_5) (v2 + (1 : Int32))
      )
    )
def fX1_sumOfValues (k0 : Nat) (S : teS) : Option Int32 :=
  fX1_sumOfValues_4 k0 2000 S (0 : Int32) (0 : Int32)
def fX1_sumOfCredits_4 (k0 : Nat) : Nat → teS → Int32 → Int32 → Option Int32
  | 0, _, _, _ => none
  | n + 1, S, v1, v2 =>
    if (S k0 0) ≤ v2 then (
      some v1
    ) else (
      chk (tein v2 9) <|
      fX1_sumOfCredits_4 k0 n S (v1 + (S k0 (2 + 10 * v2.toNatClampNeg + 6))) (v2 + (1 : Int32))
    )
def fX1_sumOfCredits (k0 : Nat) (S : teS) : Option Int32 :=
  fX1_sumOfCredits_4 k0 2000 S (0 : Int32) (0 : Int32)
def fX1_countBlocking_16 (k0 : Nat) (q4 : teS → Int32 → Int32 → Option Int32) : Nat → teS → Int32 → Int32 → Int32 → Option Int32
  | 0, _, _, _, _ => none
  | n + 1, S, v1, v2, v3 =>
    if (S k0 0) ≤ v3 then (
      q4 S v1 (v2 + (1 : Int32))
    ) else (
      bd1 (fX1_block k0 v2 v3 S) fun r_3 =>
      if r_3 = 0 then (
        fX1_countBlocking_16 k0 q4 n S v1 v2 (v3 + (1 : Int32))
      ) else (
        fX1_countBlocking_16 k0 q4 n S (v1 + (1 : Int32)) v2 (v3 + (1 : Int32))
      )
    )
def fX1_countBlocking_4 (k0 : Nat) : Nat → teS → Int32 → Int32 → Option Int32
  | 0, _, _, _ => none
  | n + 1, S, v1, v2 =>
    if (S k0 0) ≤ v2 then (
      some v1
    ) else (
      fX1_countBlocking_16 k0 (fX1_countBlocking_4 k0 n) 2000 S v1 v2 (v2 + (1 : Int32))
    )
def fX1_countBlocking (k0 : Nat) (S : teS) : Option Int32 :=
  fX1_countBlocking_4 k0 2000 S (0 : Int32) (0 : Int32)
def fX1_countFitting_4 (k0 : Nat) : Nat → teS → Int32 → Int32 → Option Int32
  | 0, _, _, _ => none
  | n + 1, S, v1, v2 =>
    if (S k0 0) ≤ v2 then (
      some (v1 / (2 : Int32))
    ) else (
      bd1 (fX1_countFittingWith k0 v2 S) fun r_2 =>
      fX1_countFitting_4 k0 n S (v1 + r_2) (v2 + (1 : Int32))
    )
def fX1_countFitting (k0 : Nat) (S : teS) : Option Int32 :=
  fX1_countFitting_4 k0 2000 S (0 : Int32) (0 : Int32)
def fX3_start_6 (k0 : Nat) (m0 : Nat) (x1 : Int32) (x2 : Int32) (x3 : Int32) : Nat → teS → Int32 → Int32 → Option teS
  | 0, _, _, _ => none
  | n + 1, S1, v4, v5 =>
    if v5 < 0 then (
      lt1 (teu S1 k0 (2 + 10 * m0 + 4) x1) fun S2 =>
      lt1 (teu S2 k0 (2 + 10 * m0 + 5) (0 : Int32)) fun S3 =>
      lt1 (teu S3 k0 (2 + 10 * m0 + 6) x3) fun S4 =>
      lt1 (teu S4 k0 (2 + 10 * m0 + 7) (0 : Int32)) fun S5 =>
      lt1 (teu S5 k0 (2 + 10 * m0 + 8) (-9999 : Int32)) fun S6 =>
      lt1 (teu S6 k0 (2 + 10 * m0 + 9) (0 : Int32)) fun S7 =>
      some S7
    ) else (
      chk (tein v5 4) <|
      lt1 (teu S1 k0 (2 + 10 * m0 + v5.toNatClampNeg) (v4 - v4 / (10 : Int32) * (10 : Int32))) fun S8 =>
      fX3_start_6 k0 m0 x1 x2 x3 n S8 (v4 / (10 : Int32)) (v5 + (-1 : Int32))
    )
def fX3_start (k0 : Nat) (m0 : Nat) (x1 : Int32) (x2 : Int32) (x3 : Int32) (S : teS) : Option teS :=
  fX3_start_6 k0 m0 x1 x2 x3 2000 S x2 (3 : Int32)
def fX1_add (k0 : Nat) (x1 : Int32) (x2 : Int32) (x3 : Int32) (S : teS) : Option teS :=
  if (9 : Int32) ≤ (S k0 0) then (
    some S
  ) else (
    chk (tein (S k0 0) 9) <|
    bd1 (fX3_start k0 ((S k0 0).toNatClampNeg) x1 x2 x3 S) fun S1 =>
    lt1 (teu S1 k0 0 ((S1 k0 0) + (1 : Int32))) fun S2 =>
    some S2
  )
def fX1_separate (k0 : Nat) (x1 : Int32) (S : teS) : Option teS :=
  chk (tein x1 9) <|
  bd1 (fX1_has k0 (S k0 (2 + 10 * x1.toNatClampNeg + 8)) S) fun r_2 =>
  if r_2 = 0 then (
    some S
  ) else (
    lt1 (teu S k0 (2 + 10 * x1.toNatClampNeg + 8) (-9999 : Int32)) fun S1 =>
    chk (tein (S k0 (2 + 10 * x1.toNatClampNeg + 8)) 9) <|
    lt1 (teu S1 k0 (2 + 10 * (S k0 (2 + 10 * x1.toNatClampNeg + 8)).toNatClampNeg + 8) (-9999 : Int32)) fun S2 =>
    some S2
  )
def fX1_remove_50 (k0 : Nat) (x1 : Int32) : Nat → teS → Int32 → Option teS
  | 0, _, _ => none
  | n + 1, S1, v2 =>
    if (S1 k0 0) ≤ v2 then (
      some S1
    ) else (
      chk (tein v2 9) <|
      if (S1 k0 (2 + 10 * v2.toNatClampNeg + 8)) ≤ x1 then (
        fX1_remove_50 k0 x1 n S1 (v2 + (1 : Int32))
      ) else (
        lt1 (teu S1 k0 (2 + 10 * v2.toNatClampNeg + 8) ((S1 k0 (2 + 10 * v2.toNatClampNeg + 8)) - (1 : Int32))) fun S2 =>
        fX1_remove_50 k0 x1 n S2 (v2 + (1 : Int32))
      )
    )
def fX1_remove_17 (k0 : Nat) (x1 : Int32) : Nat → teS → Int32 → Option teS
  | 0, _, _ => none
  | n + 1, S1, v2 =>
    if (S1 k0 0) ≤ v2 then (
      fX1_remove_50 k0 x1 2000 S1 (0 : Int32)
    ) else (
      chk (tein v2 9) <|
      chk (tein (v2 + (1 : Int32)) 9) <|
      bd1 (fX3_copyFrom k0 v2.toNatClampNeg k0 ((v2 + (1 : Int32)).toNatClampNeg) S1) fun S2 =>
      fX1_remove_17 k0 x1 n S2 (v2 + (1 : Int32))
    )
def fX1_remove (k0 : Nat) (x1 : Int32) (S : teS) : Option teS :=
  bd1 (fX1_separate k0 x1 S) fun S1 =>
  lt1 (teu S1 k0 0 ((S1 k0 0) - (1 : Int32))) fun S2 =>
  fX1_remove_17 k0 x1 2000 S2 x1
def fX1_separateIfUnfit (k0 : Nat) (x1 : Int32) (S : teS) : Option teS :=
  chk (tein x1 9) <|
  bd1 (fX1_has k0 (S k0 (2 + 10 * x1.toNatClampNeg + 8)) S) fun r_2 =>
  if r_2 = 0 then (
    some S
  ) else (
    bd1 (fX1_fit k0 x1 (S k0 (2 + 10 * x1.toNatClampNeg + 8)) S) fun r_5 =>
    if r_5 = 0 then (
      bd1 (fX1_separate k0 x1 S) fun S1 =>
      some S1
    ) else (
      some S
    )
  )
def fX1_changeWish (k0 : Nat) (x1 : Int32) (x2 : Int32) (S : teS) : Option teS :=
  chk (tein x1 9) <|
  lt1 (teu S k0 (2 + 10 * x1.toNatClampNeg + 4) x2) fun S1 =>
  lt1 (teu S1 k0 (2 + 10 * x1.toNatClampNeg + 5) (0 : Int32)) fun S2 =>
  bd1 (fX1_separateIfUnfit k0 x1 S2) fun S3 =>
  some S3
def fX1_grade (k0 : Nat) (x1 : Int32) (x2 : Int32) (x3 : Int32) (S : teS) : Option teS :=
  chk (tein x1 9) <|
  chk (tein x2 4) <|
  lt1 (teu S k0 (2 + 10 * x1.toNatClampNeg + x2.toNatClampNeg) (x3 / (10 : Int32))) fun S1 =>
  if (S1 k0 (2 + 10 * x1.toNatClampNeg + 4)) = x2 then (
    lt1 (teu S1 k0 (2 + 10 * x1.toNatClampNeg + 5) ((x3 - x3 / (10 : Int32) * (10 : Int32)) * (2 : Int32))) fun S3 =>
    bd1 (fX1_separateIfUnfit k0 x1 S3) fun S4 =>
    some S4
  ) else (
    bd1 (fX1_separateIfUnfit k0 x1 S1) fun S2 =>
    some S2
  )
def fX1_unite (k0 : Nat) (x1 : Int32) (x2 : Int32) (S : teS) : Option teS :=
  chk (tein x1 9) <|
  lt1 (teu S k0 (2 + 10 * x1.toNatClampNeg + 8) x2) fun S1 =>
  chk (tein x2 9) <|
  lt1 (teu S1 k0 (2 + 10 * x2.toNatClampNeg + 8) x1) fun S2 =>
  lt1 (teu S2 k0 (2 + 10 * x1.toNatClampNeg + 9) (0 : Int32)) fun S3 =>
  lt1 (teu S3 k0 (2 + 10 * x2.toNatClampNeg + 9) (0 : Int32)) fun S4 =>
  some S4
def fX1_uniteBestFreePair_67 (k0 : Nat) (q13 : teS → Int32 → Int32 → Int32 → Int32 → Option (Int32 × teS)) (q28 : teS → Int32 → Int32 → Int32 → Int32 → Int32 → Option (Int32 × teS)) (S1 : teS) (v4 : Int32) (v5 : Int32) : Option (Int32 × teS) :=
  bd1 (fX1_value k0 v4 v5 S1) fun r_18 =>
  q28 S1 v4 v5 r_18 v4 (v5 + (1 : Int32))
def fX1_uniteBestFreePair_28 (k0 : Nat) (q13 : teS → Int32 → Int32 → Int32 → Int32 → Option (Int32 × teS)) : Nat → teS → Int32 → Int32 → Int32 → Int32 → Int32 → Option (Int32 × teS)
  | 0, _, _, _, _, _, _ => none
  | n + 1, S1, v1, v2, v3, v4, v5 =>
    if (S1 k0 0) ≤ v5 then (
      q13 S1 v1 v2 v3 (v4 + (1 : Int32))
    ) else (
      bd1 (fX1_canBecomePartners k0 v4 v5 S1) fun r_11 =>
      if r_11 = 0 then (
        fX1_uniteBestFreePair_28 k0 q13 n S1 v1 v2 v3 v4 (v5 + (1 : Int32))
      ) else (
        if v1 = (-9999 : Int32) then (
          fX1_uniteBestFreePair_67 k0 q13 (fX1_uniteBestFreePair_28 k0 q13 n) S1 v4 v5
        ) else (
          bd1 (fX1_value k0 v4 v5 S1) fun r_15 =>
          if r_15 ≤ v3 then (
            fX1_uniteBestFreePair_28 k0 q13 n S1 v1 v2 v3 v4 (v5 + (1 : Int32))
          ) else (
            fX1_uniteBestFreePair_67 k0 q13 (fX1_uniteBestFreePair_28 k0 q13 n) S1 v4 v5
          )
        )
      )
    )
def fX1_uniteBestFreePair_13 (k0 : Nat) : Nat → teS → Int32 → Int32 → Int32 → Int32 → Option (Int32 × teS)
  | 0, _, _, _, _, _ => none
  | n + 1, S1, v1, v2, v3, v4 =>
    if (S1 k0 0) ≤ v4 then (
      bd1 (fX1_has k0 v1 S1) fun r_2 =>
      if r_2 = 0 then (
        some ((0 : Int32), S1)
      ) else (
        bd1 (fX1_has k0 v2 S1) fun r_5 =>
        if r_5 = 0 then (
          some ((0 : Int32), S1)
        ) else (
          bd1 (fX1_unite k0 v1 v2 S1) fun S2 =>
          some ((1 : Int32), S2)
        )
      )
    ) else (
      fX1_uniteBestFreePair_28 k0 (fX1_uniteBestFreePair_13 k0 n) 2000 S1 v1 v2 v3 v4 (v4 + (1 : Int32))
    )
def fX1_uniteBestFreePair (k0 : Nat) (S : teS) : Option (Int32 × teS) :=
  fX1_uniteBestFreePair_13 k0 2000 S (-9999 : Int32) (-9999 : Int32) (0 : Int32) (0 : Int32)
def fX1_matchFree_2 (k0 : Nat) : Nat → teS → Int32 → Option (Int32 × teS)
  | 0, _, _ => none
  | n + 1, S1, v1 =>
    if (4 : Int32) ≤ v1 then (
      some (v1, S1)
    ) else (
      bd2 (fX1_uniteBestFreePair k0 S1) fun r_2 S2 =>
      if r_2 = 0 then (
        some (v1, S2)
      ) else (
        fX1_matchFree_2 k0 n S2 (v1 + (1 : Int32))
      )
    )
def fX1_matchFree (k0 : Nat) (S : teS) : Option (Int32 × teS) :=
  fX1_matchFree_2 k0 2000 S (0 : Int32)
def fX1_uniteFirstBlockingPair_14 (k0 : Nat) (q2 : teS → Int32 → Option (Int32 × teS)) : Nat → teS → Int32 → Int32 → Option (Int32 × teS)
  | 0, _, _, _ => none
  | n + 1, S1, v1, v2 =>
    if (S1 k0 0) ≤ v2 then (
      q2 S1 (v1 + (1 : Int32))
    ) else (
      bd1 (fX1_block k0 v1 v2 S1) fun r_3 =>
      if r_3 = 0 then (
        fX1_uniteFirstBlockingPair_14 k0 q2 n S1 v1 (v2 + (1 : Int32))
      ) else (
        bd1 (fX1_separate k0 v1 S1) fun S2 =>
        bd1 (fX1_separate k0 v2 S2) fun S3 =>
        bd1 (fX1_unite k0 v1 v2 S3) fun S4 =>
        some ((1 : Int32), S4)
      )
    )
def fX1_uniteFirstBlockingPair_2 (k0 : Nat) : Nat → teS → Int32 → Option (Int32 × teS)
  | 0, _, _ => none
  | n + 1, S1, v1 =>
    if (S1 k0 0) ≤ v1 then (
      some ((0 : Int32), S1)
    ) else (
      fX1_uniteFirstBlockingPair_14 k0 (fX1_uniteFirstBlockingPair_2 k0 n) 2000 S1 v1 (v1 + (1 : Int32))
    )
def fX1_uniteFirstBlockingPair (k0 : Nat) (S : teS) : Option (Int32 × teS) :=
  fX1_uniteFirstBlockingPair_2 k0 2000 S (0 : Int32)
def fX1_settleBy_2 (k0 : Nat) (x1 : Int32) : Nat → teS → Int32 → Option (Int32 × teS)
  | 0, _, _ => none
  | n + 1, S1, v2 =>
    if x1 ≤ v2 then (
      some (v2, S1)
    ) else (
      bd2 (fX1_uniteFirstBlockingPair k0 S1) fun r_2 S2 =>
      if r_2 = 0 then (
        some (v2, S2)
      ) else (
        fX1_settleBy_2 k0 x1 n S2 (v2 + (1 : Int32))
      )
    )
def fX1_settleBy (k0 : Nat) (x1 : Int32) (S : teS) : Option (Int32 × teS) :=
  fX1_settleBy_2 k0 x1 2000 S (0 : Int32)
def fX3_gainCredits (k0 : Nat) (m0 : Nat) (x1 : Int32) (S : teS) : Option teS :=
  lt1 (teu S k0 (2 + 10 * m0 + 6) (if (-99 : Int32) < (if ((S k0 (2 + 10 * m0 + 6)) + x1) < (99 : Int32) then ((S k0 (2 + 10 * m0 + 6)) + x1) else (99 : Int32)) then (if ((S k0 (2 + 10 * m0 + 6)) + x1) < (99 : Int32) then ((S k0 (2 + 10 * m0 + 6)) + x1) else (99 : Int32)) else (-99 : Int32))) fun S1 =>
  some S1
def fX3_failToMeet (k0 : Nat) (m0 : Nat) (x1 : Int32) (S : teS) : Option teS :=
  lt1 (teu S k0 (2 + 10 * m0 + 9) ((S k0 (2 + 10 * m0 + 9)) + (1 : Int32))) fun S1 =>
  if x1 = 0 then (
    bd1 (fX3_gainCredits k0 m0 (2 : Int32) S1) fun S2 =>
    some S2
  ) else (
    lt1 (teu S1 k0 (2 + 10 * m0 + 7) ((S1 k0 (2 + 10 * m0 + 7)) + (1 : Int32))) fun S3 =>
    bd1 (fX3_gainCredits k0 m0 (-3 : Int32) S3) fun S4 =>
    some S4
  )
def fX1_pointsOfMeeting (k0 : Nat) (x1 : Int32) (x2 : Int32) (S : teS) : Option Int32 :=
  bd1 (fX1_lead k0 x1 x2 S) fun r_1 =>
  some (if (1 : Int32) < ((4 : Int32) + r_1) then ((4 : Int32) + r_1) else (1 : Int32))
def fX3_learn_57 (k0 : Nat) (m0 : Nat) (x1 : Int32) (S1 : teS) : Option teS :=
  chk (tein (S1 k0 (2 + 10 * m0 + 4)) 4) <|
  if (S1 k0 (2 + 10 * m0 + (S1 k0 (2 + 10 * m0 + 4)).toNatClampNeg)) = (9 : Int32) then (
    lt1 (teu S1 k0 (2 + 10 * m0 + 5) (0 : Int32)) fun S2 =>
    some S2
  ) else (
    some S1
  )
def fX3_learn (k0 : Nat) (m0 : Nat) (x1 : Int32) (S : teS) : Option teS :=
  lt1 (teu S k0 (2 + 10 * m0 + 5) ((S k0 (2 + 10 * m0 + 5)) + x1)) fun S1 =>
  if (S1 k0 (2 + 10 * m0 + 5)) < (20 : Int32) then (
    fX3_learn_57 k0 m0 x1 S1
  ) else (
    chk (tein (S1 k0 (2 + 10 * m0 + 4)) 4) <|
    if (9 : Int32) ≤ (S1 k0 (2 + 10 * m0 + (S1 k0 (2 + 10 * m0 + 4)).toNatClampNeg)) then (
      fX3_learn_57 k0 m0 x1 S1
    ) else (
      lt1 (teu S1 k0 (2 + 10 * m0 + (S1 k0 (2 + 10 * m0 + 4)).toNatClampNeg) ((S1 k0 (2 + 10 * m0 + (S1 k0 (2 + 10 * m0 + 4)).toNatClampNeg)) + (1 : Int32))) fun S2 =>
      lt1 (teu S2 k0 (2 + 10 * m0 + 5) ((S2 k0 (2 + 10 * m0 + 5)) - (20 : Int32))) fun S3 =>
      fX3_learn_57 k0 m0 x1 S3
    )
  )
def fX3_meet (k0 : Nat) (m0 : Nat) (x1 : Int32) (S : teS) : Option teS :=
  lt1 (teu S k0 (2 + 10 * m0 + 9) (0 : Int32)) fun S1 =>
  bd1 (fX3_gainCredits k0 m0 (1 : Int32) S1) fun S2 =>
  bd1 (fX3_learn k0 m0 x1 S2) fun S3 =>
  some S3
def fX1_passWeekOfPair_42 (k0 : Nat) (x1 : Int32) (x2 : Int32) (x3 : Int32) (S1 : teS) (v4 : Int32) (v5 : Int32) : Option teS :=
  chk (tein x1 9) <|
  bd1 (fX3_failToMeet k0 x1.toNatClampNeg v4 S1) fun S2 =>
  chk (tein x2 9) <|
  bd1 (fX3_failToMeet k0 x2.toNatClampNeg v5 S2) fun S3 =>
  some S3
def fX1_passWeekOfPair_30 (k0 : Nat) (x1 : Int32) (x2 : Int32) (x3 : Int32) (S1 : teS) (v4 : Int32) (y0 : Int32) : Option teS :=
  if v4 = 0 then (
    if y0 = 0 then (
      bd1 (fX1_pointsOfMeeting k0 x1 x2 S1) fun r_5 =>
      bd1 (fX1_pointsOfMeeting k0 x2 x1 S1) fun r_7 =>
      chk (tein x1 9) <|
      bd1 (fX3_meet k0 x1.toNatClampNeg r_5 S1) fun S2 =>
      chk (tein x2 9) <|
      bd1 (fX3_meet k0 x2.toNatClampNeg r_7 S2) fun S3 =>
      some S3
    ) else (
      fX1_passWeekOfPair_42 k0 x1 x2 x3 S1 v4 y0
    )
  ) else (
    fX1_passWeekOfPair_42 k0 x1 x2 x3 S1 v4 y0
  )
def fX1_passWeekOfPair_14 (k0 : Nat) (x1 : Int32) (x2 : Int32) (x3 : Int32) (S1 : teS) (y0 : Int32) : Option teS :=
  if ((x3 >>> (x2 &&& 31)) &&& (1 : Int32)) = (1 : Int32) then (
    fX1_passWeekOfPair_30 k0 x1 x2 x3 S1 y0 (1 : Int32)
  ) else (
    fX1_passWeekOfPair_30 k0 x1 x2 x3 S1 y0 (0 : Int32)
  )
def fX1_passWeekOfPair (k0 : Nat) (x1 : Int32) (x2 : Int32) (x3 : Int32) (S : teS) : Option teS :=
  if ((x3 >>> (x1 &&& 31)) &&& (1 : Int32)) = (1 : Int32) then (
    fX1_passWeekOfPair_14 k0 x1 x2 x3 S (1 : Int32)
  ) else (
    fX1_passWeekOfPair_14 k0 x1 x2 x3 S (0 : Int32)
  )
def fX1_passWeek_38 (k0 : Nat) (x1 : Int32) : Nat → teS → Int32 → Option teS
  | 0, _, _ => none
  | n + 1, S1, v2 =>
    if (S1 k0 0) ≤ v2 then (
      lt1 (teu S1 k0 1 ((S1 k0 1) + (1 : Int32))) fun S2 =>
      some S2
    ) else (
      bd1 (fX1_greaterPartner k0 v2 S1) fun r_8 =>
      if r_8 = (-9999 : Int32) then (
        fX1_passWeek_38 k0 x1 n S1 (v2 + (1 : Int32))
      ) else (
        bd1 (fX1_fit k0 v2 r_8 S1) fun r_11 =>
        if r_11 = 0 then (
          bd1 (fX1_separate k0 v2 S1) fun S3 =>
          fX1_passWeek_38 k0 x1 n S3 (v2 + (1 : Int32))
        ) else (
          chk (tein v2 9) <|
          if (S1 k0 (2 + 10 * v2.toNatClampNeg + 9)) < (3 : Int32) then (
            fX1_passWeek_38 k0 x1 n S1 (v2 + (1 : Int32))
          ) else (
            bd1 (fX1_separate k0 v2 S1) fun S4 =>
            fX1_passWeek_38 k0 x1 n S4 (v2 + (1 : Int32))
          )
        )
      )
    )
def fX1_passWeek_2 (k0 : Nat) (x1 : Int32) : Nat → teS → Int32 → Option teS
  | 0, _, _ => none
  | n + 1, S1, v2 =>
    if (S1 k0 0) ≤ v2 then (
      fX1_passWeek_38 k0 x1 2000 S1 (0 : Int32)
    ) else (
      bd1 (fX1_greaterPartner k0 v2 S1) fun r_2 =>
      if r_2 = (-9999 : Int32) then (
        fX1_passWeek_2 k0 x1 n S1 (v2 + (1 : Int32))
      ) else (
        bd1 (fX1_passWeekOfPair k0 v2 r_2 x1 S1) fun S2 =>
        fX1_passWeek_2 k0 x1 n S2 (v2 + (1 : Int32))
      )
    )
def fX1_passWeek (k0 : Nat) (x1 : Int32) (S : teS) : Option teS :=
  fX1_passWeek_2 k0 x1 2000 S (0 : Int32)
def fX2_remember_32 (k1 : Nat) (S1 : teS) : Option teS :=
  chk (tein (((S1 363 0) + (S1 363 1)) - ((S1 363 0) + (S1 363 1)) / (14 : Int32) * (14 : Int32)) 14) <|
  bd1 (fX1_copyFrom (2 + (((S1 363 0) + (S1 363 1)) - ((S1 363 0) + (S1 363 1)) / (14 : Int32) * (14 : Int32)).toNatClampNeg) k1 S1) fun S2 =>
  lt1 (teu S2 363 1 ((S2 363 1) + (1 : Int32))) fun S3 =>
  some S3
def fX2_remember (k1 : Nat) (S : teS) : Option teS :=
  if (S 363 1) < (14 : Int32) then (
    fX2_remember_32 k1 S
  ) else (
    lt1 (teu S 363 0 (((S 363 0) + (1 : Int32)) - ((S 363 0) + (1 : Int32)) / (14 : Int32) * (14 : Int32))) fun S1 =>
    lt1 (teu S1 363 1 ((S1 363 1) - (1 : Int32))) fun S2 =>
    fX2_remember_32 k1 S2
  )
def fX2_takeBack (k1 : Nat) (S : teS) : Option teS :=
  if (S 363 1) ≤ 0 then (
    some S
  ) else (
    lt1 (teu S 363 1 ((S 363 1) - (1 : Int32))) fun S1 =>
    chk (tein (((S1 363 0) + (S1 363 1)) - ((S1 363 0) + (S1 363 1)) / (14 : Int32) * (14 : Int32)) 14) <|
    bd1 (fX1_copyFrom k1 (2 + (((S1 363 0) + (S1 363 1)) - ((S1 363 0) + (S1 363 1)) / (14 : Int32) * (14 : Int32)).toNatClampNeg) S1) fun S2 =>
    some S2
  )
def fX2_forget (S : teS) : Option teS :=
  lt1 (teu S 363 1 (0 : Int32)) fun S1 =>
  some S1
def fX3_wantedLevel (k0 : Nat) (m0 : Nat) (S : teS) : Option Int32 :=
  chk (tein (S k0 (2 + 10 * m0 + 4)) 4) <|
  some (S k0 (2 + 10 * m0 + (S k0 (2 + 10 * m0 + 4)).toNatClampNeg))
def fX4_add (x1 : Int32) (S : teS) : Option teS :=
  if (90 : Int32) ≤ (S 361 0) then (
    some S
  ) else (
    chk (tein (S 361 0) 90) <|
    lt1 (teu S 362 (S 361 0).toNatClampNeg (vp_nar .char x1)) fun S1 =>
    lt1 (teu S1 361 0 ((S1 361 0) + (1 : Int32))) fun S2 =>
    some S2
  )
def fX4_allows_59 (x1 : Int32) (x2 : Int32) (S : teS) (y0 : Int32) : Option Int32 :=
  if x2 < (48 : Int32) then (
    some (0 : Int32)
  ) else (
    if y0 < x2 then (
      some (0 : Int32)
    ) else (
      some (1 : Int32)
    )
  )
def fX4_allows (x1 : Int32) (x2 : Int32) (S : teS) : Option Int32 :=
  if x1 = 0 then (
    if x2 = (76 : Int32) then (
      some (1 : Int32)
    ) else (
      some (0 : Int32)
    )
  ) else (
    if x1 ≤ (72 : Int32) then (
      if ((x1 - (1 : Int32)) - (x1 - (1 : Int32)) / (8 : Int32) * (8 : Int32)) = 0 then (
        if x2 = (109 : Int32) then (
          some (1 : Int32)
        ) else (
          some (0 : Int32)
        )
      ) else (
        if ((x1 - (1 : Int32)) - (x1 - (1 : Int32)) / (8 : Int32) * (8 : Int32)) = (1 : Int32) then (
          fX4_allows_59 x1 x2 S (51 : Int32)
        ) else (
          fX4_allows_59 x1 x2 S (57 : Int32)
        )
      )
    ) else (
      some (0 : Int32)
    )
  )
def fX4_isWhole (S : teS) : Option Int32 :=
  if (S 361 0) ≤ 0 then (
    some (0 : Int32)
  ) else (
    if (((S 361 0) - (1 : Int32)) - ((S 361 0) - (1 : Int32)) / (8 : Int32) * (8 : Int32)) = 0 then (
      some (1 : Int32)
    ) else (
      some (0 : Int32)
    )
  )
def fX4_firstError_2 : Nat → teS → Int32 → Option Int32
  | 0, _, _ => none
  | n + 1, S, v1 =>
    if (S 361 0) ≤ v1 then (
      bd1 (fX4_isWhole S) fun r_2 =>
      if r_2 = 0 then (
        some (S 361 0)
      ) else (
        some (-9999 : Int32)
      )
    ) else (
      chk (tein v1 90) <|
      bd1 (fX4_allows v1 (S 362 v1.toNatClampNeg) S) fun r_6 =>
      if r_6 = 0 then (
        some v1
      ) else (
        fX4_firstError_2 n S (v1 + (1 : Int32))
      )
    )
def fX4_firstError (S : teS) : Option Int32 :=
  fX4_firstError_2 2000 S (0 : Int32)
def fX4_number_5 (x1 : Int32) (x2 : Int32) : Nat → teS → Int32 → Int32 → Option Int32
  | 0, _, _, _ => none
  | n + 1, S, v3, v4 =>
    if (x1 + x2) ≤ v4 then (
      some v3
    ) else (
      if (S 361 0) ≤ v4 then (
        some v3
      ) else (
        chk (tein v4 90) <|
        fX4_number_5 x1 x2 n S ((((10 : Int32) * v3) + (S 362 v4.toNatClampNeg)) - (48 : Int32)) (v4 + (1 : Int32))
      )
    )
def fX4_number (x1 : Int32) (x2 : Int32) (S : teS) : Option Int32 :=
  fX4_number_5 x1 x2 2000 S (0 : Int32) x1
def fX4_readInto_12 (k1 : Nat) : Nat → teS → Int32 → Option teS
  | 0, _, _ => none
  | n + 1, S1, v2 =>
    if (S1 361 0) < (v2 + (8 : Int32)) then (
      some S1
    ) else (
      bd1 (fX4_number (v2 + (1 : Int32)) (1 : Int32) S1) fun r_2 =>
      bd1 (fX4_number (v2 + (2 : Int32)) (4 : Int32) S1) fun r_4 =>
      bd1 (fX4_number (v2 + (6 : Int32)) (2 : Int32) S1) fun r_6 =>
      bd1 (fX1_add k1 r_2 r_4 r_6 S1) fun S2 =>
      fX4_readInto_12 k1 n S2 (v2 + (8 : Int32))
    )
def fX4_readInto (k1 : Nat) (S : teS) : Option teS :=
  lt1 (teu S k1 0 (0 : Int32)) fun S1 =>
  lt1 (teu S1 k1 1 (0 : Int32)) fun S2 =>
  fX4_readInto_12 k1 2000 S2 (1 : Int32)
def fX5_requireRange (x0 : Int32) (x1 : Int32) (x2 : Int32) (S : teS) : Option (Nat ⊕ Unit) :=
  if x0 < x1 then (
    some (.inl 1)
  ) else (
    if x0 ≤ x2 then (
      some (.inr ())
    ) else (
      some (.inl 1)
    )
  )
def fX5_append (x1 : Int32) (S : teS) : Option (Nat ⊕ (Int32 × teS)) :=
  bx1 (fX5_requireRange x1 (0 : Int32) (255 : Int32) S) fun _ =>
  if (S 361 0) < (90 : Int32) then (
    bd1 (fX4_add (((x1).toUInt32 % 65536).toInt32) S) fun S1 =>
    some (.inr ((S1 361 0), S1))
  ) else (
    some (.inl 2)
  )
def fX5_clearText (S : teS) : Option (Int32 × teS) :=
  lt1 (teu S 361 0 (0 : Int32)) fun S1 =>
  some ((S 361 0), S1)
def fX5_errorPosition (S : teS) : Option Int32 :=
  bd1 (fX4_firstError S) fun r_1 =>
  some r_1
def fX5_load_43 : Nat → teS → Int32 → Option (Nat ⊕ (Int32 × teS))
  | 0, _, _ => none
  | n + 1, S1, v1 =>
    if (2 : Int32) ≤ v1 then (
      some (.inr ((S1 0 0), S1))
    ) else (
      chk (tein v1 2) <|
      lt1 (teu S1 366 v1.toNatClampNeg (vp_nar .boolean (0 : Int32))) fun S2 =>
      fX5_load_43 n S2 (v1 + (1 : Int32))
    )
def fX5_load (S : teS) : Option (Nat ⊕ (Int32 × teS)) :=
  bd1 (fX4_firstError S) fun r_1 =>
  if r_1 = (-9999 : Int32) then (
    bd1 (fX4_readInto 0 S) fun S1 =>
    bd1 (fX2_forget S1) fun S2 =>
    fX5_load_43 2000 S2 (0 : Int32)
  ) else (
    some (.inl 2)
  )
def fX5_about (x1 : Int32) (S : teS) : Option (Nat ⊕ (Int32 × teS)) :=
  if x1 = (0 : Int32) then (
    some (.inr ((S 0 0), S))
  ) else (
  if x1 = (1 : Int32) then (
    bd1 (fX1_countPairs 0 S) fun r_3 =>
    some (.inr (r_3, S))
  ) else (
  if x1 = (2 : Int32) then (
    some (.inr ((S 0 1), S))
  ) else (
  if x1 = (3 : Int32) then (
    bd1 (fX1_sumOfValues 0 S) fun r_7 =>
    some (.inr (r_7, S))
  ) else (
  if x1 = (4 : Int32) then (
    bd1 (fX1_countBlocking 0 S) fun r_10 =>
    some (.inr (r_10, S))
  ) else (
  if x1 = (5 : Int32) then (
    bd1 (fX1_sumOfCredits 0 S) fun r_13 =>
    some (.inr (r_13, S))
  ) else (
  if x1 = (6 : Int32) then (
    bd1 (fX1_countFitting 0 S) fun r_16 =>
    some (.inr (r_16, S))
  ) else (
    some (.inl 1)
  )))))))
def fX5_requireMember (x1 : Int32) (S : teS) : Option (Nat ⊕ Unit) :=
  bd1 (fX1_has 0 x1 S) fun r_1 =>
  if r_1 = 0 then (
    some (.inl 3)
  ) else (
    some (.inr ())
  )
def fX5_member (x1 : Int32) (x2 : Int32) (S : teS) : Option (Nat ⊕ (Int32 × teS)) :=
  bx1 (fX5_requireMember x1 S) fun _ =>
  bx1 (fX5_requireRange x2 (0 : Int32) (10 : Int32) S) fun _ =>
  bd1 (fX1_numberOf 0 x1 x2 S) fun r_5 =>
  some (.inr (r_5, S))
def fX5_requireTwoMembers (x1 : Int32) (x2 : Int32) (S : teS) : Option (Nat ⊕ Unit) :=
  bx1 (fX5_requireMember x1 S) fun _ =>
  bx1 (fX5_requireMember x2 S) fun _ =>
  if x1 = x2 then (
    some (.inl 1)
  ) else (
    some (.inr ())
  )
def fX5_both (x1 : Int32) (x2 : Int32) (x3 : Int32) (S : teS) : Option (Nat ⊕ (Int32 × teS)) :=
  bx1 (fX5_requireTwoMembers x1 x2 S) fun _ =>
  if x3 = (0 : Int32) then (
    bd1 (fX1_score 0 x1 x2 S) fun r_4 =>
    some (.inr (r_4, S))
  ) else (
  if x3 = (1 : Int32) then (
    bd1 (fX1_value 0 x1 x2 S) fun r_7 =>
    some (.inr (r_7, S))
  ) else (
  if x3 = (2 : Int32) then (
    bd1 (fX1_fit 0 x1 x2 S) fun r_10 =>
    if r_10 = 0 then (
      some (.inr ((0 : Int32), S))
    ) else (
      some (.inr ((1 : Int32), S))
    )
  ) else (
  if x3 = (3 : Int32) then (
    bd1 (fX1_block 0 x1 x2 S) fun r_14 =>
    if r_14 = 0 then (
      some (.inr ((0 : Int32), S))
    ) else (
      some (.inr ((1 : Int32), S))
    )
  ) else (
    some (.inl 1)
  ))))
def fX5_requireLanguage (x0 : Int32) (S : teS) : Option (Nat ⊕ Unit) :=
  bx1 (fX5_requireRange x0 (0 : Int32) (3 : Int32) S) fun _ =>
  some (.inr ())
def fX5_join (x1 : Int32) (x2 : Int32) (x3 : Int32) (S : teS) : Option (Nat ⊕ (Int32 × teS)) :=
  bx1 (fX5_requireLanguage x1 S) fun _ =>
  bx1 (fX5_requireRange x2 (0 : Int32) (9999 : Int32) S) fun _ =>
  bx1 (fX5_requireRange x3 (-99 : Int32) (99 : Int32) S) fun _ =>
  if (S 0 0) < (9 : Int32) then (
    bd1 (fX2_remember 0 S) fun S1 =>
    bd1 (fX1_add 0 x1 x2 x3 S1) fun S2 =>
    some (.inr (((S2 0 0) - (1 : Int32)), S2))
  ) else (
    some (.inl 2)
  )
def fX5_leave (x1 : Int32) (S : teS) : Option (Nat ⊕ (Int32 × teS)) :=
  bx1 (fX5_requireMember x1 S) fun _ =>
  bd1 (fX2_remember 0 S) fun S1 =>
  chk (tein x1 9) <|
  bd1 (fX1_remove 0 x1 S1) fun S2 =>
  some (.inr ((S1 0 (2 + 10 * x1.toNatClampNeg + 6)), S2))
def fX5_want (x1 : Int32) (x2 : Int32) (S : teS) : Option (Nat ⊕ (Int32 × teS)) :=
  bx1 (fX5_requireMember x1 S) fun _ =>
  bx1 (fX5_requireLanguage x2 S) fun _ =>
  bd1 (fX2_remember 0 S) fun S1 =>
  chk (tein x1 9) <|
  bd1 (fX1_changeWish 0 x1 x2 S1) fun S2 =>
  some (.inr ((S1 0 (2 + 10 * x1.toNatClampNeg + 4)), S2))
def fX5_test (x1 : Int32) (x2 : Int32) (x3 : Int32) (S : teS) : Option (Nat ⊕ (Int32 × teS)) :=
  bx1 (fX5_requireMember x1 S) fun _ =>
  bx1 (fX5_requireLanguage x2 S) fun _ =>
  bx1 (fX5_requireRange x3 (0 : Int32) (99 : Int32) S) fun _ =>
  bd1 (fX2_remember 0 S) fun S1 =>
  chk (tein x1 9) <|
  chk (tein x2 4) <|
  bd1 (fX1_grade 0 x1 x2 x3 S1) fun S2 =>
  some (.inr ((S1 0 (2 + 10 * x1.toNatClampNeg + x2.toNatClampNeg)), S2))
def fX5_pair (x1 : Int32) (x2 : Int32) (S : teS) : Option (Nat ⊕ (Int32 × teS)) :=
  bx1 (fX5_requireTwoMembers x1 x2 S) fun _ =>
  bd1 (fX1_canBecomePartners 0 x1 x2 S) fun r_3 =>
  if r_3 = 0 then (
    some (.inl 2)
  ) else (
    bd1 (fX2_remember 0 S) fun S1 =>
    bd1 (fX1_unite 0 x1 x2 S1) fun S2 =>
    bd1 (fX1_value 0 x1 x2 S2) fun r_10 =>
    some (.inr (r_10, S2))
  )
def fX5_requirePartner (x1 : Int32) (S : teS) : Option (Nat ⊕ Unit) :=
  bd1 (fX1_isFree 0 x1 S) fun r_1 =>
  if r_1 = 0 then (
    some (.inr ())
  ) else (
    some (.inl 2)
  )
def fX5_part (x1 : Int32) (S : teS) : Option (Nat ⊕ (Int32 × teS)) :=
  bx1 (fX5_requireMember x1 S) fun _ =>
  bx1 (fX5_requirePartner x1 S) fun _ =>
  bd1 (fX2_remember 0 S) fun S1 =>
  chk (tein x1 9) <|
  bd1 (fX1_separate 0 x1 S1) fun S2 =>
  some (.inr ((S1 0 (2 + 10 * x1.toNatClampNeg + 8)), S2))
def fX5_match (S : teS) : Option (Int32 × teS) :=
  bd1 (fX2_remember 0 S) fun S1 =>
  bd2 (fX1_matchFree 0 S1) fun r_3 S2 =>
  some (r_3, S2)
def fX5_settle (x1 : Int32) (S : teS) : Option (Nat ⊕ (Int32 × teS)) :=
  bx1 (fX5_requireRange x1 (1 : Int32) (50 : Int32) S) fun _ =>
  bd1 (fX2_remember 0 S) fun S1 =>
  bd2 (fX1_settleBy 0 x1 S1) fun r_5 S2 =>
  some (.inr (r_5, S2))
def fX5_week (x1 : Int32) (S : teS) : Option (Nat ⊕ (Int32 × teS)) :=
  bx1 (fX5_requireRange x1 (0 : Int32) (511 : Int32) S) fun _ =>
  bd1 (fX2_remember 0 S) fun S1 =>
  bd1 (fX1_passWeek 0 x1 S1) fun S2 =>
  bd1 (fX1_countPairs 0 S2) fun r_7 =>
  some (.inr (r_7, S2))
def fX5_undo (S : teS) : Option (Nat ⊕ (Int32 × teS)) :=
  if (S 363 1) = 0 then (
    some (.inl 2)
  ) else (
    bd1 (fX2_takeBack 0 S) fun S1 =>
    some (.inr ((S1 363 1), S1))
  )
def fX5_blocking_37 (x1 : Int32) (x2 : Int32) (q19 : teS → Int32 → Int32 → Option (Nat ⊕ (Int32 × teS))) : Nat → teS → Int32 → Int32 → Int32 → Option (Nat ⊕ (Int32 × teS))
  | 0, _, _, _, _ => none
  | n + 1, S, v3, v4, v5 =>
    if (S 0 0) ≤ v5 then (
      q19 S v3 (v4 + (1 : Int32))
    ) else (
      bd1 (fX1_block 0 v4 v5 S) fun r_4 =>
      if r_4 = 0 then (
        fX5_blocking_37 x1 x2 q19 n S v3 v4 (v5 + (1 : Int32))
      ) else (
        if v3 = 0 then (
          if x2 = 0 then (
            some (.inr (v4, S))
          ) else (
            some (.inr (v5, S))
          )
        ) else (
          fX5_blocking_37 x1 x2 q19 n S (v3 + (-1 : Int32)) v4 (v5 + (1 : Int32))
        )
      )
    )
def fX5_blocking_19 (x1 : Int32) (x2 : Int32) : Nat → teS → Int32 → Int32 → Option (Nat ⊕ (Int32 × teS))
  | 0, _, _, _ => none
  | n + 1, S, v3, v4 =>
    if (S 0 0) ≤ v4 then (
      some (.inr ((-9999 : Int32), S))
    ) else (
      fX5_blocking_37 x1 x2 (fX5_blocking_19 x1 x2 n) 2000 S v3 v4 (v4 + (1 : Int32))
    )
def fX5_blocking (x1 : Int32) (x2 : Int32) (S : teS) : Option (Nat ⊕ (Int32 × teS)) :=
  if 0 ≤ x1 then (
    fX5_blocking_19 x1 x2 2000 S x1 (0 : Int32)
  ) else (
    some (.inl 1)
  )
def fX5_bestPartner_56 (x1 : Int32) (x2 : Int32) (q15 : teS → Int32 → Int32 → Int32 → Option (Nat ⊕ (Int32 × teS))) (S : teS) (v3 : Int32) (v4 : Int32) (v5 : Int32) : Option (Nat ⊕ (Int32 × teS)) :=
  bd1 (fX1_score 0 x1 v5 S) fun r_11 =>
  if v3 = (-9999 : Int32) then (
    q15 S v5 r_11 (v5 + (1 : Int32))
  ) else (
    if r_11 ≤ v4 then (
      q15 S v3 v4 (v5 + (1 : Int32))
    ) else (
      q15 S v5 r_11 (v5 + (1 : Int32))
    )
  )
def fX5_bestPartner_15 (x1 : Int32) (x2 : Int32) : Nat → teS → Int32 → Int32 → Int32 → Option (Nat ⊕ (Int32 × teS))
  | 0, _, _, _, _ => none
  | n + 1, S, v3, v4, v5 =>
    if (S 0 0) ≤ v5 then (
      some (.inr (v3, S))
    ) else (
      bd1 (fX1_fit 0 x1 v5 S) fun r_4 =>
      if r_4 = 0 then (
        fX5_bestPartner_15 x1 x2 n S v3 v4 (v5 + (1 : Int32))
      ) else (
        if x2 = 0 then (
          fX5_bestPartner_56 x1 x2 (fX5_bestPartner_15 x1 x2 n) S v3 v4 v5
        ) else (
          bd1 (fX1_isFree 0 v5 S) fun r_8 =>
          if r_8 = 0 then (
            fX5_bestPartner_15 x1 x2 n S v3 v4 (v5 + (1 : Int32))
          ) else (
            fX5_bestPartner_56 x1 x2 (fX5_bestPartner_15 x1 x2 n) S v3 v4 v5
          )
        )
      )
    )
def fX5_bestPartner (x1 : Int32) (x2 : Int32) (S : teS) : Option (Nat ⊕ (Int32 × teS)) :=
  bx1 (fX5_requireMember x1 S) fun _ =>
  fX5_bestPartner_15 x1 x2 2000 S (-9999 : Int32) (0 : Int32) (0 : Int32)
def fX5_best (x1 : Int32) (S : teS) : Option (Nat ⊕ (Int32 × teS)) :=
  bx1 (fX5_requireRange x1 (0 : Int32) (1 : Int32) S) fun _ =>
  bd1 (fX0_fill 0 S) fun S1 =>
  bd1 (fX0_rankOfAll 0 S1) fun r_5 =>
  if x1 = 0 then (
    bd1 (fX0_pairsOf r_5 S1) fun r_10 =>
    some (.inr (r_10, S1))
  ) else (
    bd1 (fX0_sumOf r_5 S1) fun r_8 =>
    some (.inr (r_8, S1))
  )
def fX5_missedMost_19 : Nat → teS → Int32 → Int32 → Int32 → Option (Int32 × teS)
  | 0, _, _, _, _ => none
  | n + 1, S1, v1, v2, v3 =>
    if (S1 0 0) ≤ v3 then (
      some (v1, S1)
    ) else (
      bd1 (fX0_rankWithout 0 v3 S1) fun r_4 =>
      if v1 = (-9999 : Int32) then (
        fX5_missedMost_19 n S1 v3 r_4 (v3 + (1 : Int32))
      ) else (
        if v2 ≤ r_4 then (
          fX5_missedMost_19 n S1 v1 v2 (v3 + (1 : Int32))
        ) else (
          fX5_missedMost_19 n S1 v3 r_4 (v3 + (1 : Int32))
        )
      )
    )
def fX5_missedMost (S : teS) : Option (Int32 × teS) :=
  bd1 (fX0_fill 0 S) fun S1 =>
  fX5_missedMost_19 2000 S1 (-9999 : Int32) (0 : Int32) (0 : Int32)
def fX5_ahead_42 (x1 : Int32) (x2 : Int32) (x3 : Int32) (x4 : Int32) : Nat → teS → Int32 → Option (Nat ⊕ (Int32 × teS))
  | 0, _, _ => none
  | n + 1, S1, v5 =>
    if x2 ≤ v5 then (
      bd1 (fX1_numberOf 1 x1 x4 S1) fun r_12 =>
      some (.inr (r_12, S1))
    ) else (
      bd1 (fX1_passWeek 1 x3 S1) fun S2 =>
      fX5_ahead_42 x1 x2 x3 x4 n S2 (v5 + (1 : Int32))
    )
def fX5_ahead (x1 : Int32) (x2 : Int32) (x3 : Int32) (x4 : Int32) (S : teS) : Option (Nat ⊕ (Int32 × teS)) :=
  bx1 (fX5_requireMember x1 S) fun _ =>
  bx1 (fX5_requireRange x2 (0 : Int32) (60 : Int32) S) fun _ =>
  bx1 (fX5_requireRange x3 (0 : Int32) (511 : Int32) S) fun _ =>
  bx1 (fX5_requireRange x4 (0 : Int32) (10 : Int32) S) fun _ =>
  bd1 (fX1_copyFrom 1 0 S) fun S1 =>
  fX5_ahead_42 x1 x2 x3 x4 2000 S1 (0 : Int32)
def fX5_levelAfter_25 (x1 : Int32) (x2 : Int32) : Nat → teS → Int32 → Option (Nat ⊕ (Int32 × teS))
  | 0, _, _ => none
  | n + 1, S1, v3 =>
    if (100 : Int32) < v3 then (
      some (.inr ((-9999 : Int32), S1))
    ) else (
      chk (tein x1 9) <|
      bd1 (fX3_wantedLevel 1 x1.toNatClampNeg S1) fun r_9 =>
      if r_9 < x2 then (
        bd2 (fX1_matchFree 1 S1) fun r_12 S2 =>
        bd1 (fX1_passWeek 1 (0 : Int32) S2) fun S3 =>
        fX5_levelAfter_25 x1 x2 n S3 (v3 + (1 : Int32))
      ) else (
        some (.inr (v3, S1))
      )
    )
def fX5_levelAfter (x1 : Int32) (x2 : Int32) (S : teS) : Option (Nat ⊕ (Int32 × teS)) :=
  bx1 (fX5_requireMember x1 S) fun _ =>
  bx1 (fX5_requireRange x2 (0 : Int32) (9 : Int32) S) fun _ =>
  bd1 (fX1_copyFrom 1 0 S) fun S1 =>
  fX5_levelAfter_25 x1 x2 2000 S1 (0 : Int32)
def fX5_partsAfter_31 (x1 : Int32) (x2 : Int32) : Nat → teS → Int32 → Option (Nat ⊕ (Int32 × teS))
  | 0, _, _ => none
  | n + 1, S1, v3 =>
    if (100 : Int32) < v3 then (
      some (.inr ((-9999 : Int32), S1))
    ) else (
      bd1 (fX1_passWeek 1 x2 S1) fun S2 =>
      bd1 (fX1_isFree 1 x1 S2) fun r_12 =>
      if r_12 = 0 then (
        fX5_partsAfter_31 x1 x2 n S2 (v3 + (1 : Int32))
      ) else (
        some (.inr (v3, S2))
      )
    )
def fX5_partsAfter (x1 : Int32) (x2 : Int32) (S : teS) : Option (Nat ⊕ (Int32 × teS)) :=
  bx1 (fX5_requireMember x1 S) fun _ =>
  bx1 (fX5_requireRange x2 (0 : Int32) (511 : Int32) S) fun _ =>
  bx1 (fX5_requirePartner x1 S) fun _ =>
  bd1 (fX1_copyFrom 1 0 S) fun S1 =>
  fX5_partsAfter_31 x1 x2 2000 S1 (1 : Int32)
def fX5_withoutLowestGroups_5 (x0 : Int64) (x2 : Int32) : Nat → teS → Int64 → Int32 → Option Int64
  | 0, _, _, _ => none
  | n + 1, S, v3, v5 =>
    if x2 ≤ v5 then (
      some v3
    ) else (
      fX5_withoutLowestGroups_5 x0 x2 n S (v3 / (10000 : Int64)) (v5 + (1 : Int32))
    )
def fX5_withoutLowestGroups (x0 : Int64) (x2 : Int32) (S : teS) : Option Int64 :=
  fX5_withoutLowestGroups_5 x0 x2 2000 S x0 (0 : Int32)
def fX5_commandSucceeds (x1 : Int32) (S : teS) : Option (Int32 × teS) :=
  if (x1 / (1000 : Int32)) = (1 : Int32) then (
    if (x1 - x1 / (10 : Int32) * (10 : Int32)) = 0 then (
      bd1 (fX1_has 1 ((x1 / (100 : Int32)) - (x1 / (100 : Int32)) / (10 : Int32) * (10 : Int32)) S) fun r_3 =>
      if r_3 = 0 then (
        some ((0 : Int32), S)
      ) else (
        bd1 (fX1_has 1 ((x1 / (10 : Int32)) - (x1 / (10 : Int32)) / (10 : Int32) * (10 : Int32)) S) fun r_6 =>
        if r_6 = 0 then (
          some ((0 : Int32), S)
        ) else (
          if ((x1 / (100 : Int32)) - (x1 / (100 : Int32)) / (10 : Int32) * (10 : Int32)) = ((x1 / (10 : Int32)) - (x1 / (10 : Int32)) / (10 : Int32) * (10 : Int32)) then (
            some ((0 : Int32), S)
          ) else (
            bd1 (fX1_canBecomePartners 1 ((x1 / (100 : Int32)) - (x1 / (100 : Int32)) / (10 : Int32) * (10 : Int32)) ((x1 / (10 : Int32)) - (x1 / (10 : Int32)) / (10 : Int32) * (10 : Int32)) S) fun r_10 =>
            if r_10 = 0 then (
              some ((0 : Int32), S)
            ) else (
              bd1 (fX1_unite 1 ((x1 / (100 : Int32)) - (x1 / (100 : Int32)) / (10 : Int32) * (10 : Int32)) ((x1 / (10 : Int32)) - (x1 / (10 : Int32)) / (10 : Int32) * (10 : Int32)) S) fun S1 =>
              some ((1 : Int32), S1)
            )
          )
        )
      )
    ) else (
      some ((0 : Int32), S)
    )
  ) else (
  if (x1 / (1000 : Int32)) = (2 : Int32) then (
    if ((x1 / (10 : Int32)) - (x1 / (10 : Int32)) / (10 : Int32) * (10 : Int32)) = 0 then (
      if (x1 - x1 / (10 : Int32) * (10 : Int32)) = 0 then (
        bd1 (fX1_has 1 ((x1 / (100 : Int32)) - (x1 / (100 : Int32)) / (10 : Int32) * (10 : Int32)) S) fun r_18 =>
        if r_18 = 0 then (
          some ((0 : Int32), S)
        ) else (
          bd1 (fX1_isFree 1 ((x1 / (100 : Int32)) - (x1 / (100 : Int32)) / (10 : Int32) * (10 : Int32)) S) fun r_21 =>
          if r_21 = 0 then (
            bd1 (fX1_separate 1 ((x1 / (100 : Int32)) - (x1 / (100 : Int32)) / (10 : Int32) * (10 : Int32)) S) fun S2 =>
            some ((1 : Int32), S2)
          ) else (
            some ((0 : Int32), S)
          )
        )
      ) else (
        some ((0 : Int32), S)
      )
    ) else (
      some ((0 : Int32), S)
    )
  ) else (
  if (x1 / (1000 : Int32)) = (3 : Int32) then (
    if ((x1 / (100 : Int32)) - (x1 / (100 : Int32)) / (10 : Int32) * (10 : Int32)) = 0 then (
      if ((x1 / (10 : Int32)) - (x1 / (10 : Int32)) / (10 : Int32) * (10 : Int32)) = 0 then (
        if (x1 - x1 / (10 : Int32) * (10 : Int32)) = 0 then (
          bd2 (fX1_matchFree 1 S) fun r_30 S3 =>
          some ((1 : Int32), S3)
        ) else (
          some ((0 : Int32), S)
        )
      ) else (
        some ((0 : Int32), S)
      )
    ) else (
      some ((0 : Int32), S)
    )
  ) else (
  if (x1 / (1000 : Int32)) = (4 : Int32) then (
    if ((x1 / (100 : Int32)) - (x1 / (100 : Int32)) / (10 : Int32) * (10 : Int32)) = 0 then (
      if (((10 : Int32) * ((x1 / (10 : Int32)) - (x1 / (10 : Int32)) / (10 : Int32) * (10 : Int32))) + (x1 - x1 / (10 : Int32) * (10 : Int32))) < (1 : Int32) then (
        some ((0 : Int32), S)
      ) else (
        if (((10 : Int32) * ((x1 / (10 : Int32)) - (x1 / (10 : Int32)) / (10 : Int32) * (10 : Int32))) + (x1 - x1 / (10 : Int32) * (10 : Int32))) ≤ (50 : Int32) then (
          bd2 (fX1_settleBy 1 (((10 : Int32) * ((x1 / (10 : Int32)) - (x1 / (10 : Int32)) / (10 : Int32) * (10 : Int32))) + (x1 - x1 / (10 : Int32) * (10 : Int32))) S) fun r_36 S4 =>
          some ((1 : Int32), S4)
        ) else (
          some ((0 : Int32), S)
        )
      )
    ) else (
      some ((0 : Int32), S)
    )
  ) else (
  if (x1 / (1000 : Int32)) = (5 : Int32) then (
    if ((((100 : Int32) * ((x1 / (100 : Int32)) - (x1 / (100 : Int32)) / (10 : Int32) * (10 : Int32))) + ((10 : Int32) * ((x1 / (10 : Int32)) - (x1 / (10 : Int32)) / (10 : Int32) * (10 : Int32)))) + (x1 - x1 / (10 : Int32) * (10 : Int32))) ≤ (511 : Int32) then (
      bd1 (fX1_passWeek 1 ((((100 : Int32) * ((x1 / (100 : Int32)) - (x1 / (100 : Int32)) / (10 : Int32) * (10 : Int32))) + ((10 : Int32) * ((x1 / (10 : Int32)) - (x1 / (10 : Int32)) / (10 : Int32) * (10 : Int32)))) + (x1 - x1 / (10 : Int32) * (10 : Int32))) S) fun S5 =>
      some ((1 : Int32), S5)
    ) else (
      some ((0 : Int32), S)
    )
  ) else (
  if (x1 / (1000 : Int32)) = (6 : Int32) then (
    bd1 (fX1_has 1 ((x1 / (100 : Int32)) - (x1 / (100 : Int32)) / (10 : Int32) * (10 : Int32)) S) fun r_43 =>
    if r_43 = 0 then (
      some ((0 : Int32), S)
    ) else (
      if ((x1 / (10 : Int32)) - (x1 / (10 : Int32)) / (10 : Int32) * (10 : Int32)) < (4 : Int32) then (
        bd1 (fX1_grade 1 ((x1 / (100 : Int32)) - (x1 / (100 : Int32)) / (10 : Int32) * (10 : Int32)) ((x1 / (10 : Int32)) - (x1 / (10 : Int32)) / (10 : Int32) * (10 : Int32)) ((10 : Int32) * (x1 - x1 / (10 : Int32) * (10 : Int32))) S) fun S6 =>
        some ((1 : Int32), S6)
      ) else (
        some ((0 : Int32), S)
      )
    )
  ) else (
  if (x1 / (1000 : Int32)) = (7 : Int32) then (
    if (x1 - x1 / (10 : Int32) * (10 : Int32)) = 0 then (
      bd1 (fX1_has 1 ((x1 / (100 : Int32)) - (x1 / (100 : Int32)) / (10 : Int32) * (10 : Int32)) S) fun r_51 =>
      if r_51 = 0 then (
        some ((0 : Int32), S)
      ) else (
        bd1 (fX1_has 1 ((x1 / (10 : Int32)) - (x1 / (10 : Int32)) / (10 : Int32) * (10 : Int32)) S) fun r_54 =>
        if r_54 = 0 then (
          some ((0 : Int32), S)
        ) else (
          chk (tein ((x1 / (100 : Int32)) - (x1 / (100 : Int32)) / (10 : Int32) * (10 : Int32)) 9) <|
          if (S 1 (2 + 10 * ((x1 / (100 : Int32)) - (x1 / (100 : Int32)) / (10 : Int32) * (10 : Int32)).toNatClampNeg + 8)) = ((x1 / (10 : Int32)) - (x1 / (10 : Int32)) / (10 : Int32) * (10 : Int32)) then (
            some ((1 : Int32), S)
          ) else (
            some ((0 : Int32), S)
          )
        )
      )
    ) else (
      some ((0 : Int32), S)
    )
  ) else (
  if (x1 / (1000 : Int32)) = (8 : Int32) then (
    if ((x1 / (100 : Int32)) - (x1 / (100 : Int32)) / (10 : Int32) * (10 : Int32)) = 0 then (
      if ((x1 / (10 : Int32)) - (x1 / (10 : Int32)) / (10 : Int32) * (10 : Int32)) = 0 then (
        bd1 (fX1_countPairs 1 S) fun r_62 =>
        if r_62 = (x1 - x1 / (10 : Int32) * (10 : Int32)) then (
          some ((1 : Int32), S)
        ) else (
          some ((0 : Int32), S)
        )
      ) else (
        some ((0 : Int32), S)
      )
    ) else (
      some ((0 : Int32), S)
    )
  ) else (
  if (x1 / (1000 : Int32)) = (9 : Int32) then (
    bd1 (fX1_has 1 ((x1 / (100 : Int32)) - (x1 / (100 : Int32)) / (10 : Int32) * (10 : Int32)) S) fun r_66 =>
    if r_66 = 0 then (
      some ((0 : Int32), S)
    ) else (
      if (4 : Int32) ≤ ((x1 / (10 : Int32)) - (x1 / (10 : Int32)) / (10 : Int32) * (10 : Int32)) then (
        some ((0 : Int32), S)
      ) else (
        chk (tein ((x1 / (100 : Int32)) - (x1 / (100 : Int32)) / (10 : Int32) * (10 : Int32)) 9) <|
        chk (tein ((x1 / (10 : Int32)) - (x1 / (10 : Int32)) / (10 : Int32) * (10 : Int32)) 4) <|
        if (S 1 (2 + 10 * ((x1 / (100 : Int32)) - (x1 / (100 : Int32)) / (10 : Int32) * (10 : Int32)).toNatClampNeg + ((x1 / (10 : Int32)) - (x1 / (10 : Int32)) / (10 : Int32) * (10 : Int32)).toNatClampNeg)) = (x1 - x1 / (10 : Int32) * (10 : Int32)) then (
          some ((1 : Int32), S)
        ) else (
          some ((0 : Int32), S)
        )
      )
    )
  ) else (
    some ((0 : Int32), S)
  )))))))))
def fX5_runScript_46 (x1 : Int32) (x2 : Int64) : Nat → teS → Int32 → Option (Nat ⊕ (Int32 × teS))
  | 0, _, _ => none
  | n + 1, S1, v4 =>
    if x1 ≤ v4 then (
      some (.inr ((-9999 : Int32), S1))
    ) else (
      bd1 (fX5_withoutLowestGroups x2 ((x1 - (1 : Int32)) - v4) S1) fun r_10 =>
      bd2 (fX5_commandSucceeds (((r_10 - r_10 / (10000 : Int64) * (10000 : Int64))).toInt32) S1) fun r_12 S2 =>
      if r_12 = 0 then (
        some (.inr (v4, S2))
      ) else (
        fX5_runScript_46 x1 x2 n S2 (v4 + (1 : Int32))
      )
    )
def fX5_runScript (x1 : Int32) (x2 : Int64) (S : teS) : Option (Nat ⊕ (Int32 × teS)) :=
  bx1 (fX5_requireRange x1 (1 : Int32) (4 : Int32) S) fun _ =>
  if (lg_cmp x2 (0 : Int64)) < 0 then (
    some (.inl 1)
  ) else (
    bd1 (fX5_withoutLowestGroups x2 x1 S) fun r_4 =>
    if (lg_cmp r_4 (0 : Int64)) = 0 then (
      bd1 (fX1_copyFrom 1 0 S) fun S1 =>
      fX5_runScript_46 x1 x2 2000 S1 (0 : Int32)
    ) else (
      some (.inl 1)
    )
  )
def fX5_simulate_65 (x1 : Int64) (x3 : Int32) (q24 : teS → Int64 → Int32 → Option (Nat ⊕ (Int32 × teS))) (S1 : teS) (v4 : Int64) (v6 : Int32) (v7 : Int32) : Option (Nat ⊕ (Int32 × teS)) :=
  bd1 (fX1_passWeek 1 ((v7 / (4 : Int32)) - (v7 / (4 : Int32)) / (512 : Int32) * (512 : Int32)) S1) fun S2 =>
  q24 S2 v4 (v6 + (1 : Int32))
def fX5_simulate_24 (x1 : Int64) (x3 : Int32) : Nat → teS → Int64 → Int32 → Option (Nat ⊕ (Int32 × teS))
  | 0, _, _, _ => none
  | n + 1, S1, v4, v6 =>
    if x3 ≤ v6 then (
      bd1 (fX1_sumOfCredits 1 S1) fun r_6 =>
      some (.inr (r_6, S1))
    ) else (
      if ((((((v4 * (6364136223846793005 : Int64)) + (1442695040888963407 : Int64))).toUInt64 >>> (((33 : Int32)).toInt64.toUInt64 &&& Int64.toUInt64 63)).toInt64).toInt32 - (((((v4 * (6364136223846793005 : Int64)) + (1442695040888963407 : Int64))).toUInt64 >>> (((33 : Int32)).toInt64.toUInt64 &&& Int64.toUInt64 63)).toInt64).toInt32 / (4 : Int32) * (4 : Int32)) = 0 then (
        bd2 (fX1_matchFree 1 S1) fun r_9 S2 =>
        fX5_simulate_65 x1 x3 (fX5_simulate_24 x1 x3 n) S2 ((v4 * (6364136223846793005 : Int64)) + (1442695040888963407 : Int64)) v6 (((((v4 * (6364136223846793005 : Int64)) + (1442695040888963407 : Int64))).toUInt64 >>> (((33 : Int32)).toInt64.toUInt64 &&& Int64.toUInt64 63)).toInt64).toInt32
      ) else (
        fX5_simulate_65 x1 x3 (fX5_simulate_24 x1 x3 n) S1 ((v4 * (6364136223846793005 : Int64)) + (1442695040888963407 : Int64)) v6 (((((v4 * (6364136223846793005 : Int64)) + (1442695040888963407 : Int64))).toUInt64 >>> (((33 : Int32)).toInt64.toUInt64 &&& Int64.toUInt64 63)).toInt64).toInt32
      )
    )
def fX5_simulate (x1 : Int64) (x3 : Int32) (S : teS) : Option (Nat ⊕ (Int32 × teS)) :=
  bx1 (fX5_requireRange x3 (1 : Int32) (60 : Int32) S) fun _ =>
  bd1 (fX1_copyFrom 1 0 S) fun S1 =>
  fX5_simulate_24 x1 x3 2000 S1 x1 (0 : Int32)
def fX5_requireSlot (x0 : Int32) (S : teS) : Option (Nat ⊕ Unit) :=
  if x0 < 0 then (
    some (.inl 3)
  ) else (
    if x0 < (2 : Int32) then (
      some (.inr ())
    ) else (
      some (.inl 3)
    )
  )
def fX5_save (x1 : Int32) (S : teS) : Option (Nat ⊕ (Int32 × teS)) :=
  bx1 (fX5_requireSlot x1 S) fun _ =>
  chk (tein x1 2) <|
  bd1 (fX1_copyFrom (16 + x1.toNatClampNeg) 0 S) fun S1 =>
  lt1 (teu S1 366 x1.toNatClampNeg (vp_nar .boolean (1 : Int32))) fun S2 =>
  some (.inr ((S2 0 1), S2))
def fX5_restore (x1 : Int32) (S : teS) : Option (Nat ⊕ (Int32 × teS)) :=
  bx1 (fX5_requireSlot x1 S) fun _ =>
  chk (tein x1 2) <|
  if (S 366 x1.toNatClampNeg) = 0 then (
    some (.inl 2)
  ) else (
    bd1 (fX1_copyFrom 0 (16 + x1.toNatClampNeg) S) fun S1 =>
    bd1 (fX2_forget S1) fun S2 =>
    some (.inr ((S2 0 1), S2))
  )
def fX6_thrown (S : teS) : Option Int32 :=
  some (S 369 0)
def fX6_refused (x1 : Int32) (S : teS) : Option (Int32 × teS) :=
  lt1 (teu S 369 0 x1) fun S1 =>
  if x1 ≤ 0 then (
    some ((0 : Int32), S1)
  ) else (
    some ((1 : Int32), S1)
  )
def fX6_in (x0 : Int64) (x2 : Int64) (x4 : Int64) (S : teS) : Option Int32 :=
  if (lg_cmp x0 x2) < 0 then (
    some (0 : Int32)
  ) else (
    if 0 < (lg_cmp x0 x4) then (
      some (0 : Int32)
    ) else (
      some (1 : Int32)
    )
  )
def fX6_copyPage_3 (r0 : Nat) (x1 : Int32) (r2 : Nat) (x3 : Int32) : Nat → teS → Int32 → Option teS
  | 0, _, _ => none
  | n + 1, S1, v4 =>
    if (92 : Int32) ≤ v4 then (
      some S1
    ) else (
      chk (tein (x1 + v4) (teI r0)) <|
      chk (tein (x3 + v4) (teI r2)) <|
      lt1 (teu S1 r2 (x3 + v4).toNatClampNeg (S1 r0 (x1 + v4).toNatClampNeg)) fun S2 =>
      fX6_copyPage_3 r0 x1 r2 x3 n S2 (v4 + (1 : Int32))
    )
def fX6_copyPage (r0 : Nat) (x1 : Int32) (r2 : Nat) (x3 : Int32) (S : teS) : Option teS :=
  fX6_copyPage_3 r0 x1 r2 x3 2000 S (0 : Int32)
def fX6_at (x0 : Int32) (S : teS) : Option Int32 :=
  some ((2 : Int32) + ((10 : Int32) * x0))
def fX6_isMember (r0 : Nat) (x1 : Int32) (S : teS) : Option Int32 :=
  chk (tein (0 : Int32) (teI r0)) <|
  bd1 (fX6_in ((x1).toInt64) (0 : Int64) ((((S r0 (0 : Int32).toNatClampNeg) - (1 : Int32))).toInt64) S) fun r_2 =>
  chk (decide (r_2 &&& 1 = r_2)) <|
  some r_2
def fX6_better (r0 : Nat) (x1 : Int32) (x2 : Int32) (S : teS) : Option Int32 :=
  bd1 (fX6_at x1 S) fun r_1 =>
  chk (tein (r_1 + (4 : Int32)) (teI r0)) <|
  bd1 (fX6_at x2 S) fun r_4 =>
  chk (tein (r_4 + (S r0 (r_1 + (4 : Int32)).toNatClampNeg)) (teI r0)) <|
  bd1 (fX6_at x1 S) fun r_7 =>
  chk (tein (r_7 + (S r0 (r_1 + (4 : Int32)).toNatClampNeg)) (teI r0)) <|
  some ((S r0 (r_4 + (S r0 (r_1 + (4 : Int32)).toNatClampNeg)).toNatClampNeg) - (S r0 (r_7 + (S r0 (r_1 + (4 : Int32)).toNatClampNeg)).toNatClampNeg))
def fX6_quarter (x0 : Int32) (S : teS) : Option Int32 :=
  if 0 ≤ x0 then (
    some (x0 / (4 : Int32))
  ) else (
    some (-(((3 : Int32) - x0) / (4 : Int32)))
  )
def fX6_score (r0 : Nat) (x1 : Int32) (x2 : Int32) (S : teS) : Option Int32 :=
  bd1 (fX6_better r0 x1 x2 S) fun r_1 =>
  bd1 (fX6_at x2 S) fun r_3 =>
  chk (tein (r_3 + (7 : Int32)) (teI r0)) <|
  bd1 (fX6_at x2 S) fun r_6 =>
  chk (tein (r_6 + (6 : Int32)) (teI r0)) <|
  bd1 (fX6_quarter (S r0 (r_6 + (6 : Int32)).toNatClampNeg) S) fun r_9 =>
  some ((((10 : Int32) * r_1) - ((5 : Int32) * (S r0 (r_3 + (7 : Int32)).toNatClampNeg))) + r_9)
def fX6_valueOf (r0 : Nat) (x1 : Int32) (x2 : Int32) (S : teS) : Option Int32 :=
  bd1 (fX6_score r0 x1 x2 S) fun r_1 =>
  bd1 (fX6_score r0 x2 x1 S) fun r_3 =>
  some (r_1 + r_3)
def fX6_fit (r0 : Nat) (x1 : Int32) (x2 : Int32) (S : teS) : Option Int32 :=
  if x1 = x2 then (
    some (0 : Int32)
  ) else (
    bd1 (fX6_better r0 x1 x2 S) fun r_2 =>
    if r_2 < (2 : Int32) then (
      some (0 : Int32)
    ) else (
      bd1 (fX6_better r0 x2 x1 S) fun r_5 =>
      if r_5 < (2 : Int32) then (
        some (0 : Int32)
      ) else (
        some (1 : Int32)
      )
    )
  )
def fX6_isFree (r0 : Nat) (x1 : Int32) (S : teS) : Option Int32 :=
  bd1 (fX6_at x1 S) fun r_1 =>
  chk (tein (r_1 + (8 : Int32)) (teI r0)) <|
  if (S r0 (r_1 + (8 : Int32)).toNatClampNeg) = (-9999 : Int32) then (
    some (1 : Int32)
  ) else (
    some (0 : Int32)
  )
def fX6_prefers (r0 : Nat) (x1 : Int32) (x2 : Int32) (S : teS) : Option Int32 :=
  bd1 (fX6_isFree r0 x1 S) fun r_1 =>
  if r_1 = 0 then (
    bd1 (fX6_at x1 S) fun r_4 =>
    chk (tein (r_4 + (8 : Int32)) (teI r0)) <|
    bd1 (fX6_score r0 x1 (S r0 (r_4 + (8 : Int32)).toNatClampNeg) S) fun r_7 =>
    bd1 (fX6_score r0 x1 x2 S) fun r_9 =>
    if r_9 ≤ r_7 then (
      some (0 : Int32)
    ) else (
      some (1 : Int32)
    )
  ) else (
    some (1 : Int32)
  )
def fX6_block (r0 : Nat) (x1 : Int32) (x2 : Int32) (S : teS) : Option Int32 :=
  bd1 (fX6_fit r0 x1 x2 S) fun r_1 =>
  if r_1 = 0 then (
    some (0 : Int32)
  ) else (
    bd1 (fX6_at x1 S) fun r_4 =>
    chk (tein (r_4 + (8 : Int32)) (teI r0)) <|
    if (S r0 (r_4 + (8 : Int32)).toNatClampNeg) = x2 then (
      some (0 : Int32)
    ) else (
      bd1 (fX6_prefers r0 x1 x2 S) fun r_8 =>
      if r_8 = 0 then (
        some (0 : Int32)
      ) else (
        bd1 (fX6_prefers r0 x2 x1 S) fun r_11 =>
        if r_11 = 0 then (
          some (0 : Int32)
        ) else (
          some (1 : Int32)
        )
      )
    )
  )
def fX6_free (r0 : Nat) (x1 : Int32) (S : teS) : Option teS :=
  bd1 (fX6_at x1 S) fun r_1 =>
  chk (tein (r_1 + (8 : Int32)) (teI r0)) <|
  lt1 (teu S r0 (r_1 + (8 : Int32)).toNatClampNeg (-9999 : Int32)) fun S1 =>
  bd1 (fX6_at x1 S1) fun r_4 =>
  chk (tein (r_4 + (9 : Int32)) (teI r0)) <|
  lt1 (teu S1 r0 (r_4 + (9 : Int32)).toNatClampNeg (0 : Int32)) fun S2 =>
  some S2
def fX6_partOn (r0 : Nat) (x1 : Int32) (S : teS) : Option teS :=
  bd1 (fX6_at x1 S) fun r_1 =>
  chk (tein (r_1 + (8 : Int32)) (teI r0)) <|
  if (S r0 (r_1 + (8 : Int32)).toNatClampNeg) = (-9999 : Int32) then (
    some S
  ) else (
    bd1 (fX6_free r0 x1 S) fun S1 =>
    bd1 (fX6_free r0 (S r0 (r_1 + (8 : Int32)).toNatClampNeg) S1) fun S2 =>
    some S2
  )
def fX6_pairOn (r0 : Nat) (x1 : Int32) (x2 : Int32) (S : teS) : Option teS :=
  bd1 (fX6_partOn r0 x1 S) fun S1 =>
  bd1 (fX6_partOn r0 x2 S1) fun S2 =>
  bd1 (fX6_at x1 S2) fun r_5 =>
  chk (tein (r_5 + (8 : Int32)) (teI r0)) <|
  lt1 (teu S2 r0 (r_5 + (8 : Int32)).toNatClampNeg x2) fun S3 =>
  bd1 (fX6_at x2 S3) fun r_8 =>
  chk (tein (r_8 + (8 : Int32)) (teI r0)) <|
  lt1 (teu S3 r0 (r_8 + (8 : Int32)).toNatClampNeg x1) fun S4 =>
  some S4
def fX6_mend (r0 : Nat) (x1 : Int32) (S : teS) : Option teS :=
  bd1 (fX6_at x1 S) fun r_1 =>
  chk (tein (r_1 + (8 : Int32)) (teI r0)) <|
  if (S r0 (r_1 + (8 : Int32)).toNatClampNeg) = (-9999 : Int32) then (
    some S
  ) else (
    bd1 (fX6_fit r0 x1 (S r0 (r_1 + (8 : Int32)).toNatClampNeg) S) fun r_5 =>
    if r_5 = 0 then (
      bd1 (fX6_partOn r0 x1 S) fun S1 =>
      some S1
    ) else (
      some S
    )
  )
def fX6_matchOn_76 (r0 : Nat) (q4 : teS → Int32 → Int32 → Option (Int32 × teS)) (q20 : teS → Int32 → Int32 → Int32 → Int32 → Option (Int32 × teS)) (q34 : teS → Int32 → Int32 → Int32 → Int32 → Int32 → Option (Int32 × teS)) (S1 : teS) (v1 : Int32) (v3 : Int32) (v4 : Int32) (v5 : Int32) (v6 : Int32) (y0 : Int32) : Option (Int32 × teS) :=
  if y0 = 0 then (
    q34 S1 v1 v3 v4 v5 (v6 + (1 : Int32))
  ) else (
    if v3 = (-9999 : Int32) then (
      q34 S1 v1 v5 v6 v5 (v6 + (1 : Int32))
    ) else (
      bd1 (fX6_valueOf r0 v5 v6 S1) fun r_21 =>
      bd1 (fX6_valueOf r0 v3 v4 S1) fun r_23 =>
      if r_21 ≤ r_23 then (
        q34 S1 v1 v3 v4 v5 (v6 + (1 : Int32))
      ) else (
        q34 S1 v1 v5 v6 v5 (v6 + (1 : Int32))
      )
    )
  )
def fX6_matchOn_34 (r0 : Nat) (q4 : teS → Int32 → Int32 → Option (Int32 × teS)) (q20 : teS → Int32 → Int32 → Int32 → Int32 → Option (Int32 × teS)) : Nat → teS → Int32 → Int32 → Int32 → Int32 → Int32 → Option (Int32 × teS)
  | 0, _, _, _, _, _, _ => none
  | n + 1, S1, v1, v3, v4, v5, v6 =>
    chk (tein (0 : Int32) (teI r0)) <|
    if (S1 r0 (0 : Int32).toNatClampNeg) ≤ v6 then (
      q20 S1 v1 v3 v4 (v5 + (1 : Int32))
    ) else (
      bd1 (fX6_isFree r0 v5 S1) fun r_10 =>
      if r_10 = 0 then (
        fX6_matchOn_76 r0 q4 q20 (fX6_matchOn_34 r0 q4 q20 n) S1 v1 v3 v4 v5 v6 (0 : Int32)
      ) else (
        bd1 (fX6_isFree r0 v6 S1) fun r_13 =>
        if r_13 = 0 then (
          fX6_matchOn_76 r0 q4 q20 (fX6_matchOn_34 r0 q4 q20 n) S1 v1 v3 v4 v5 v6 (0 : Int32)
        ) else (
          bd1 (fX6_fit r0 v5 v6 S1) fun r_16 =>
          if r_16 = 0 then (
            fX6_matchOn_76 r0 q4 q20 (fX6_matchOn_34 r0 q4 q20 n) S1 v1 v3 v4 v5 v6 (0 : Int32)
          ) else (
            fX6_matchOn_76 r0 q4 q20 (fX6_matchOn_34 r0 q4 q20 n) S1 v1 v3 v4 v5 v6 (1 : Int32)
          )
        )
      )
    )
def fX6_matchOn_139 (r0 : Nat) (q4 : teS → Int32 → Int32 → Option (Int32 × teS)) (S1 : teS) (v1 : Int32) (v3 : Int32) (v4 : Int32) (y0 : Int32) : Option (Int32 × teS) :=
  if y0 = 0 then (
    q4 S1 v1 y0
  ) else (
    bd1 (fX6_pairOn r0 v3 v4 S1) fun S2 =>
    q4 S2 (v1 + (1 : Int32)) y0
  )
def fX6_matchOn_20 (r0 : Nat) (q4 : teS → Int32 → Int32 → Option (Int32 × teS)) : Nat → teS → Int32 → Int32 → Int32 → Int32 → Option (Int32 × teS)
  | 0, _, _, _, _, _ => none
  | n + 1, S1, v1, v3, v4, v5 =>
    chk (tein (0 : Int32) (teI r0)) <|
    if (S1 r0 (0 : Int32).toNatClampNeg) ≤ v5 then (
      if v3 = (-9999 : Int32) then (
        fX6_matchOn_139 r0 q4 S1 v1 v3 v4 (0 : Int32)
      ) else (
        fX6_matchOn_139 r0 q4 S1 v1 v3 v4 (1 : Int32)
      )
    ) else (
      fX6_matchOn_34 r0 q4 (fX6_matchOn_20 r0 q4 n) 2000 S1 v1 v3 v4 v5 (v5 + (1 : Int32))
    )
def fX6_matchOn_4 (r0 : Nat) : Nat → teS → Int32 → Int32 → Option (Int32 × teS)
  | 0, _, _, _ => none
  | n + 1, S1, v1, v2 =>
    if v2 = 0 then (
      some (v1, S1)
    ) else (
      fX6_matchOn_20 r0 (fX6_matchOn_4 r0 n) 2000 S1 v1 (-9999 : Int32) (-9999 : Int32) (0 : Int32)
    )
def fX6_matchOn (r0 : Nat) (S : teS) : Option (Int32 × teS) :=
  fX6_matchOn_4 r0 2000 S (0 : Int32) (1 : Int32)
def fX6_blockAt_16 (r0 : Nat) (x1 : Int32) (q4 : teS → Int32 → Int32 → Option Int32) : Nat → teS → Int32 → Int32 → Int32 → Option Int32
  | 0, _, _, _, _ => none
  | n + 1, S, v2, v3, v4 =>
    chk (tein (0 : Int32) (teI r0)) <|
    if (S r0 (0 : Int32).toNatClampNeg) ≤ v4 then (
      q4 S v2 (v3 + (1 : Int32))
    ) else (
      bd1 (fX6_block r0 v3 v4 S) fun r_5 =>
      if r_5 = 0 then (
        fX6_blockAt_16 r0 x1 q4 n S v2 v3 (v4 + (1 : Int32))
      ) else (
        if v2 = 0 then (
          some (((10 : Int32) * v3) + v4)
        ) else (
          fX6_blockAt_16 r0 x1 q4 n S (v2 + (-1 : Int32)) v3 (v4 + (1 : Int32))
        )
      )
    )
def fX6_blockAt_4 (r0 : Nat) (x1 : Int32) : Nat → teS → Int32 → Int32 → Option Int32
  | 0, _, _, _ => none
  | n + 1, S, v2, v3 =>
    chk (tein (0 : Int32) (teI r0)) <|
    if (S r0 (0 : Int32).toNatClampNeg) ≤ v3 then (
      some (-9999 : Int32)
    ) else (
      fX6_blockAt_16 r0 x1 (fX6_blockAt_4 r0 x1 n) 2000 S v2 v3 (v3 + (1 : Int32))
    )
def fX6_blockAt (r0 : Nat) (x1 : Int32) (S : teS) : Option Int32 :=
  fX6_blockAt_4 r0 x1 2000 S x1 (0 : Int32)
def fX6_settleOn_8 (r0 : Nat) (x1 : Int32) : Nat → teS → Int32 → Int32 → Option (Int32 × teS)
  | 0, _, _, _ => none
  | n + 1, S1, v2, v3 =>
    if x1 ≤ v2 then (
      some (v2, S1)
    ) else (
      if v3 = (-9999 : Int32) then (
        some (v2, S1)
      ) else (
        bd1 (fX6_pairOn r0 (v3 / (10 : Int32)) (v3 - v3 / (10 : Int32) * (10 : Int32)) S1) fun S2 =>
        bd1 (fX6_blockAt r0 (0 : Int32) S2) fun r_7 =>
        fX6_settleOn_8 r0 x1 n S2 (v2 + (1 : Int32)) r_7
      )
    )
def fX6_settleOn (r0 : Nat) (x1 : Int32) (S : teS) : Option (Int32 × teS) :=
  bd1 (fX6_blockAt r0 (0 : Int32) S) fun r_1 =>
  fX6_settleOn_8 r0 x1 2000 S (0 : Int32) r_1
def fX6_credit (r0 : Nat) (x1 : Int32) (x2 : Int32) (S : teS) : Option teS :=
  bd1 (fX6_at x1 S) fun r_1 =>
  chk (tein (r_1 + (6 : Int32)) (teI r0)) <|
  bd1 (fX6_at x1 S) fun r_4 =>
  if ((S r0 (r_1 + (6 : Int32)).toNatClampNeg) + x2) ≤ (99 : Int32) then (
    if (-99 : Int32) ≤ ((S r0 (r_1 + (6 : Int32)).toNatClampNeg) + x2) then (
      chk (tein (r_4 + (6 : Int32)) (teI r0)) <|
      lt1 (teu S r0 (r_4 + (6 : Int32)).toNatClampNeg ((S r0 (r_1 + (6 : Int32)).toNatClampNeg) + x2)) fun S1 =>
      some S1
    ) else (
      chk (tein (r_4 + (6 : Int32)) (teI r0)) <|
      lt1 (teu S r0 (r_4 + (6 : Int32)).toNatClampNeg (-99 : Int32)) fun S2 =>
      some S2
    )
  ) else (
    chk (tein (r_4 + (6 : Int32)) (teI r0)) <|
    lt1 (teu S r0 (r_4 + (6 : Int32)).toNatClampNeg (99 : Int32)) fun S3 =>
    some S3
  )
def fX6_learn_82 (r0 : Nat) (x1 : Int32) (x2 : Int32) (S1 : teS) (v4 : Int32) (y0 : Int32) (y1 : Int32) : Option teS :=
  chk (tein y1 (teI r0)) <|
  lt1 (teu S1 r0 y1.toNatClampNeg y0) fun S2 =>
  chk (tein v4 (teI r0)) <|
  if (S2 r0 v4.toNatClampNeg) ≤ (9 : Int32) then (
    lt1 (teu S2 r0 v4.toNatClampNeg (S2 r0 v4.toNatClampNeg)) fun S3 =>
    some S3
  ) else (
    lt1 (teu S2 r0 v4.toNatClampNeg (9 : Int32)) fun S4 =>
    some S4
  )
def fX6_learn_60 (r0 : Nat) (x1 : Int32) (x2 : Int32) (S1 : teS) (v3 : Int32) (v4 : Int32) : Option teS :=
  chk (tein v4 (teI r0)) <|
  if (S1 r0 v4.toNatClampNeg) < (9 : Int32) then (
    chk (tein (v3 + (5 : Int32)) (teI r0)) <|
    fX6_learn_82 r0 x1 x2 S1 v4 (S1 r0 (v3 + (5 : Int32)).toNatClampNeg) (v3 + (5 : Int32))
  ) else (
    fX6_learn_82 r0 x1 x2 S1 v4 (0 : Int32) (v3 + (5 : Int32))
  )
def fX6_learn_30 (r0 : Nat) (x1 : Int32) (x2 : Int32) (S1 : teS) (v3 : Int32) (v4 : Int32) (y0 : Int32) (y1 : Int32) (y2 : Int32) : Option teS :=
  chk (tein y2 (teI r0)) <|
  lt1 (teu S1 r0 y2.toNatClampNeg (y1 + y0)) fun S2 =>
  chk (tein (v3 + (5 : Int32)) (teI r0)) <|
  if (S2 r0 (v3 + (5 : Int32)).toNatClampNeg) < (20 : Int32) then (
    fX6_learn_60 r0 x1 x2 S2 v3 v4
  ) else (
    lt1 (teu S2 r0 (v3 + (5 : Int32)).toNatClampNeg ((S2 r0 (v3 + (5 : Int32)).toNatClampNeg) - (20 : Int32))) fun S3 =>
    chk (tein v4 (teI r0)) <|
    lt1 (teu S3 r0 v4.toNatClampNeg ((S3 r0 v4.toNatClampNeg) + (1 : Int32))) fun S4 =>
    fX6_learn_60 r0 x1 x2 S4 v3 v4
  )
def fX6_learn (r0 : Nat) (x1 : Int32) (x2 : Int32) (S : teS) : Option teS :=
  bd1 (fX6_at x1 S) fun r_1 =>
  chk (tein (r_1 + (4 : Int32)) (teI r0)) <|
  chk (tein (r_1 + (5 : Int32)) (teI r0)) <|
  if (1 : Int32) ≤ x2 then (
    fX6_learn_30 r0 x1 x2 S r_1 (r_1 + (S r0 (r_1 + (4 : Int32)).toNatClampNeg)) x2 (S r0 (r_1 + (5 : Int32)).toNatClampNeg) (r_1 + (5 : Int32))
  ) else (
    fX6_learn_30 r0 x1 x2 S r_1 (r_1 + (S r0 (r_1 + (4 : Int32)).toNatClampNeg)) (1 : Int32) (S r0 (r_1 + (5 : Int32)).toNatClampNeg) (r_1 + (5 : Int32))
  )
def fX6_miss_19 (r0 : Nat) (x1 : Int32) (x2 : Int32) (S1 : teS) (y0 : Int32) (y1 : Int32) (y2 : Int32) : Option teS :=
  chk (tein y2 (teI r0)) <|
  lt1 (teu S1 r0 y2.toNatClampNeg (y1 + y0)) fun S2 =>
  bd1 (fX6_at x1 S2) fun r_6 =>
  chk (tein (r_6 + (9 : Int32)) (teI r0)) <|
  lt1 (teu S2 r0 (r_6 + (9 : Int32)).toNatClampNeg ((S2 r0 (r_6 + (9 : Int32)).toNatClampNeg) + (1 : Int32))) fun S3 =>
  if x2 = 0 then (
    bd1 (fX6_credit r0 x1 (2 : Int32) S3) fun S4 =>
    some S4
  ) else (
    bd1 (fX6_credit r0 x1 (-3 : Int32) S3) fun S5 =>
    some S5
  )
def fX6_miss (r0 : Nat) (x1 : Int32) (x2 : Int32) (S : teS) : Option teS :=
  bd1 (fX6_at x1 S) fun r_1 =>
  chk (tein (r_1 + (7 : Int32)) (teI r0)) <|
  if x2 = 0 then (
    fX6_miss_19 r0 x1 x2 S (0 : Int32) (S r0 (r_1 + (7 : Int32)).toNatClampNeg) (r_1 + (7 : Int32))
  ) else (
    fX6_miss_19 r0 x1 x2 S (1 : Int32) (S r0 (r_1 + (7 : Int32)).toNatClampNeg) (r_1 + (7 : Int32))
  )
def fX6_meet_30 (r0 : Nat) (x1 : Int32) (x2 : Int32) (x3 : Int32) (S1 : teS) (v4 : Int32) (y0 : Int32) : Option teS :=
  if v4 = 0 then (
    if y0 = 0 then (
      bd1 (fX6_better r0 x1 x2 S1) fun r_9 =>
      bd1 (fX6_better r0 x2 x1 S1) fun r_11 =>
      bd1 (fX6_at x1 S1) fun r_13 =>
      chk (tein (r_13 + (9 : Int32)) (teI r0)) <|
      lt1 (teu S1 r0 (r_13 + (9 : Int32)).toNatClampNeg (0 : Int32)) fun S4 =>
      bd1 (fX6_at x2 S4) fun r_16 =>
      chk (tein (r_16 + (9 : Int32)) (teI r0)) <|
      lt1 (teu S4 r0 (r_16 + (9 : Int32)).toNatClampNeg (0 : Int32)) fun S5 =>
      bd1 (fX6_credit r0 x1 (1 : Int32) S5) fun S6 =>
      bd1 (fX6_credit r0 x2 (1 : Int32) S6) fun S7 =>
      bd1 (fX6_learn r0 x1 ((4 : Int32) + r_9) S7) fun S8 =>
      bd1 (fX6_learn r0 x2 ((4 : Int32) + r_11) S8) fun S9 =>
      some S9
    ) else (
      bd1 (fX6_miss r0 x1 v4 S1) fun S10 =>
      bd1 (fX6_miss r0 x2 y0 S10) fun S11 =>
      some S11
    )
  ) else (
    bd1 (fX6_miss r0 x1 v4 S1) fun S2 =>
    bd1 (fX6_miss r0 x2 y0 S2) fun S3 =>
    some S3
  )
def fX6_meet_14 (r0 : Nat) (x1 : Int32) (x2 : Int32) (x3 : Int32) (S1 : teS) (y0 : Int32) : Option teS :=
  if ((x3 >>> (x2 &&& 31)) &&& (1 : Int32)) = (1 : Int32) then (
    fX6_meet_30 r0 x1 x2 x3 S1 y0 (1 : Int32)
  ) else (
    fX6_meet_30 r0 x1 x2 x3 S1 y0 (0 : Int32)
  )
def fX6_meet (r0 : Nat) (x1 : Int32) (x2 : Int32) (x3 : Int32) (S : teS) : Option teS :=
  if ((x3 >>> (x1 &&& 31)) &&& (1 : Int32)) = (1 : Int32) then (
    fX6_meet_14 r0 x1 x2 x3 S (1 : Int32)
  ) else (
    fX6_meet_14 r0 x1 x2 x3 S (0 : Int32)
  )
def fX6_weekOn_45 (r0 : Nat) (x1 : Int32) : Nat → teS → Int32 → Option teS
  | 0, _, _ => none
  | n + 1, S1, v2 =>
    chk (tein (0 : Int32) (teI r0)) <|
    if (S1 r0 (0 : Int32).toNatClampNeg) ≤ v2 then (
      chk (tein (1 : Int32) (teI r0)) <|
      lt1 (teu S1 r0 (1 : Int32).toNatClampNeg ((S1 r0 (1 : Int32).toNatClampNeg) + (1 : Int32))) fun S2 =>
      some S2
    ) else (
      bd1 (fX6_at v2 S1) fun r_15 =>
      chk (tein (r_15 + (8 : Int32)) (teI r0)) <|
      if (S1 r0 (r_15 + (8 : Int32)).toNatClampNeg) = (-9999 : Int32) then (
        fX6_weekOn_45 r0 x1 n S1 (v2 + (1 : Int32))
      ) else (
        bd1 (fX6_fit r0 v2 (S1 r0 (r_15 + (8 : Int32)).toNatClampNeg) S1) fun r_19 =>
        if r_19 = 0 then (
          bd1 (fX6_partOn r0 v2 S1) fun S3 =>
          fX6_weekOn_45 r0 x1 n S3 (v2 + (1 : Int32))
        ) else (
          bd1 (fX6_at v2 S1) fun r_24 =>
          chk (tein (r_24 + (9 : Int32)) (teI r0)) <|
          if (S1 r0 (r_24 + (9 : Int32)).toNatClampNeg) < (3 : Int32) then (
            fX6_weekOn_45 r0 x1 n S1 (v2 + (1 : Int32))
          ) else (
            bd1 (fX6_partOn r0 v2 S1) fun S4 =>
            fX6_weekOn_45 r0 x1 n S4 (v2 + (1 : Int32))
          )
        )
      )
    )
def fX6_weekOn_2 (r0 : Nat) (x1 : Int32) : Nat → teS → Int32 → Option teS
  | 0, _, _ => none
  | n + 1, S1, v2 =>
    chk (tein (0 : Int32) (teI r0)) <|
    if (S1 r0 (0 : Int32).toNatClampNeg) ≤ v2 then (
      fX6_weekOn_45 r0 x1 2000 S1 (0 : Int32)
    ) else (
      bd1 (fX6_at v2 S1) fun r_3 =>
      chk (tein (r_3 + (8 : Int32)) (teI r0)) <|
      if (S1 r0 (r_3 + (8 : Int32)).toNatClampNeg) ≤ v2 then (
        fX6_weekOn_2 r0 x1 n S1 (v2 + (1 : Int32))
      ) else (
        bd1 (fX6_at v2 S1) fun r_7 =>
        chk (tein (r_7 + (8 : Int32)) (teI r0)) <|
        bd1 (fX6_meet r0 v2 (S1 r0 (r_7 + (8 : Int32)).toNatClampNeg) x1 S1) fun S2 =>
        fX6_weekOn_2 r0 x1 n S2 (v2 + (1 : Int32))
      )
    )
def fX6_weekOn (r0 : Nat) (x1 : Int32) (S : teS) : Option teS :=
  fX6_weekOn_2 r0 x1 2000 S (0 : Int32)
def fX6_laySets_231 (r1 : Nat) (q2 : teS → Int32 → Option teS) (q102 : teS → Int32 → Int32 → Int32 → Int32 → Option teS) (S1 : teS) (v2 : Int32) (v3 : Int32) (v4 : Int32) (v5 : Int32) (v8 : Int32) (v9 : Int32) (y0 : Int32) (y1 : Int32) : Option teS :=
  chk (tein y1 512) <|
  lt1 (teu S1 377 y1.toNatClampNeg y0) fun S2 =>
  if v9 = 0 then (
    chk (tein v2 512) <|
    lt1 (teu S2 378 v2.toNatClampNeg (S2 378 v2.toNatClampNeg)) fun S3 =>
    q102 S3 v2 v3 v4 (v5 + (1 : Int32))
  ) else (
    chk (tein v2 512) <|
    lt1 (teu S2 378 v2.toNatClampNeg v8) fun S4 =>
    q102 S4 v2 v3 v4 (v5 + (1 : Int32))
  )
def fX6_laySets_208 (r1 : Nat) (q2 : teS → Int32 → Option teS) (q102 : teS → Int32 → Int32 → Int32 → Int32 → Option teS) (S1 : teS) (v2 : Int32) (v3 : Int32) (v4 : Int32) (v5 : Int32) (v7 : Int32) (v8 : Int32) (y0 : Int32) : Option teS :=
  if y0 = 0 then (
    chk (tein v2 512) <|
    fX6_laySets_231 r1 q2 q102 S1 v2 v3 v4 v5 v8 y0 (S1 377 v2.toNatClampNeg) v2
  ) else (
    fX6_laySets_231 r1 q2 q102 S1 v2 v3 v4 v5 v8 y0 v7 v2
  )
def fX6_laySets_102 (r1 : Nat) (q2 : teS → Int32 → Option teS) : Nat → teS → Int32 → Int32 → Int32 → Int32 → Option teS
  | 0, _, _, _, _, _ => none
  | n + 1, S1, v2, v3, v4, v5 =>
    chk (tein (0 : Int32) (teI r1)) <|
    if (S1 r1 (0 : Int32).toNatClampNeg) ≤ v5 then (
      q2 S1 (v2 + (1 : Int32))
    ) else (
      if ((v4 >>> (v5 &&& 31)) &&& (1 : Int32)) = (1 : Int32) then (
        bd1 (fX6_fit r1 v3 v5 S1) fun r_13 =>
        if r_13 = 0 then (
          fX6_laySets_102 r1 q2 n S1 v2 v3 v4 (v5 + (1 : Int32))
        ) else (
          chk (tein (v4 &&& (((1 : Int32) <<< (v5 &&& 31)) ^^^ (-1 : Int32))) 512) <|
          bd1 (fX6_valueOf r1 v3 v5 S1) fun r_17 =>
          chk (tein v2 512) <|
          if (S1 377 v2.toNatClampNeg) < ((S1 377 (v4 &&& (((1 : Int32) <<< (v5 &&& 31)) ^^^ (-1 : Int32))).toNatClampNeg) + (1 : Int32)) then (
            fX6_laySets_208 r1 q2 (fX6_laySets_102 r1 q2 n) S1 v2 v3 v4 v5 ((S1 377 (v4 &&& (((1 : Int32) <<< (v5 &&& 31)) ^^^ (-1 : Int32))).toNatClampNeg) + (1 : Int32)) ((S1 378 (v4 &&& (((1 : Int32) <<< (v5 &&& 31)) ^^^ (-1 : Int32))).toNatClampNeg) + r_17) (1 : Int32)
          ) else (
            if ((S1 377 (v4 &&& (((1 : Int32) <<< (v5 &&& 31)) ^^^ (-1 : Int32))).toNatClampNeg) + (1 : Int32)) = (S1 377 v2.toNatClampNeg) then (
              if ((S1 378 (v4 &&& (((1 : Int32) <<< (v5 &&& 31)) ^^^ (-1 : Int32))).toNatClampNeg) + r_17) ≤ (S1 378 v2.toNatClampNeg) then (
                fX6_laySets_208 r1 q2 (fX6_laySets_102 r1 q2 n) S1 v2 v3 v4 v5 ((S1 377 (v4 &&& (((1 : Int32) <<< (v5 &&& 31)) ^^^ (-1 : Int32))).toNatClampNeg) + (1 : Int32)) ((S1 378 (v4 &&& (((1 : Int32) <<< (v5 &&& 31)) ^^^ (-1 : Int32))).toNatClampNeg) + r_17) (0 : Int32)
              ) else (
                fX6_laySets_208 r1 q2 (fX6_laySets_102 r1 q2 n) S1 v2 v3 v4 v5 ((S1 377 (v4 &&& (((1 : Int32) <<< (v5 &&& 31)) ^^^ (-1 : Int32))).toNatClampNeg) + (1 : Int32)) ((S1 378 (v4 &&& (((1 : Int32) <<< (v5 &&& 31)) ^^^ (-1 : Int32))).toNatClampNeg) + r_17) (1 : Int32)
              )
            ) else (
              fX6_laySets_208 r1 q2 (fX6_laySets_102 r1 q2 n) S1 v2 v3 v4 v5 ((S1 377 (v4 &&& (((1 : Int32) <<< (v5 &&& 31)) ^^^ (-1 : Int32))).toNatClampNeg) + (1 : Int32)) ((S1 378 (v4 &&& (((1 : Int32) <<< (v5 &&& 31)) ^^^ (-1 : Int32))).toNatClampNeg) + r_17) (0 : Int32)
            )
          )
        )
      ) else (
        fX6_laySets_102 r1 q2 n S1 v2 v3 v4 (v5 + (1 : Int32))
      )
    )
def fX6_laySets_62 (r1 : Nat) (q2 : teS → Int32 → Option teS) (S1 : teS) (v2 : Int32) (v3 : Int32) (y0 : Int32) : Option teS :=
  chk (tein (0 : Int32) (teI r1)) <|
  if (S1 r1 (0 : Int32).toNatClampNeg) ≤ v3 then (
    fX6_laySets_102 r1 q2 2000 S1 v2 v3 y0 (v3 + (1 : Int32))
  ) else (
    chk (tein y0 512) <|
    chk (tein v2 512) <|
    lt1 (teu S1 377 v2.toNatClampNeg (S1 377 y0.toNatClampNeg)) fun S2 =>
    lt1 (teu S2 378 v2.toNatClampNeg (S2 378 y0.toNatClampNeg)) fun S3 =>
    fX6_laySets_102 r1 q2 2000 S3 v2 v3 y0 (v3 + (1 : Int32))
  )
def fX6_laySets_45 (r1 : Nat) (q2 : teS → Int32 → Option teS) (S1 : teS) (v2 : Int32) (v3 : Int32) : Option teS :=
  if v3 = (9 : Int32) then (
    fX6_laySets_62 r1 q2 S1 v2 v3 (0 : Int32)
  ) else (
    fX6_laySets_62 r1 q2 S1 v2 v3 (v2 &&& (((1 : Int32) <<< (v3 &&& 31)) ^^^ (-1 : Int32)))
  )
def fX6_laySets_25 (r1 : Nat) (q2 : teS → Int32 → Option teS) : Nat → teS → Int32 → Int32 → Option teS
  | 0, _, _, _ => none
  | n + 1, S1, v2, v3 =>
    if (9 : Int32) ≤ v3 then (
      fX6_laySets_45 r1 q2 S1 v2 v3
    ) else (
      if ((v2 >>> (v3 &&& 31)) &&& (1 : Int32)) = 0 then (
        fX6_laySets_25 r1 q2 n S1 v2 (v3 + (1 : Int32))
      ) else (
        fX6_laySets_45 r1 q2 S1 v2 v3
      )
    )
def fX6_laySets_2 (r1 : Nat) : Nat → teS → Int32 → Option teS
  | 0, _, _ => none
  | n + 1, S1, v2 =>
    if (512 : Int32) ≤ v2 then (
      some S1
    ) else (
      chk (tein v2 512) <|
      lt1 (teu S1 377 v2.toNatClampNeg (0 : Int32)) fun S2 =>
      lt1 (teu S2 378 v2.toNatClampNeg (0 : Int32)) fun S3 =>
      fX6_laySets_25 r1 (fX6_laySets_2 r1 n) 2000 S3 v2 (0 : Int32)
    )
def fX6_laySets (r1 : Nat) (S : teS) : Option teS :=
  fX6_laySets_2 r1 2000 S (0 : Int32)
def fX6_append_31 (x1 : Int32) (S1 : teS) (y0 : Int32) : Option (Int32 × teS) :=
  bd2 (fX6_refused y0 S1) fun r_5 S2 =>
  if r_5 = 0 then (
    chk (tein (S2 369 1) 90) <|
    lt1 (teu S2 370 (S2 369 1).toNatClampNeg x1) fun S3 =>
    lt1 (teu S3 369 1 ((S3 369 1) + (1 : Int32))) fun S4 =>
    some ((S4 369 1), S4)
  ) else (
    some ((0 : Int32), S2)
  )
def fX6_append (x1 : Int32) (S : teS) : Option (Int32 × teS) :=
  bd1 (fX6_in ((x1).toInt64) (0 : Int64) (255 : Int64) S) fun r_1 =>
  if r_1 = 0 then (
    fX6_append_31 x1 S (1 : Int32)
  ) else (
    if (S 369 1) = (90 : Int32) then (
      fX6_append_31 x1 S (2 : Int32)
    ) else (
      fX6_append_31 x1 S (0 : Int32)
    )
  )
def fX6_clearText (S : teS) : Option (Int32 × teS) :=
  lt1 (teu S 369 0 (0 : Int32)) fun S1 =>
  lt1 (teu S1 369 1 (0 : Int32)) fun S2 =>
  some ((S1 369 1), S2)
def fX6_eat_29 (x1 : Int32) (S1 : teS) (y0 : Int32) : Option (Int32 × teS) :=
  if y0 = 0 then (
    lt1 (teu S1 369 2 ((S1 369 2) + (0 : Int32))) fun S2 =>
    chk (decide (y0 &&& 1 = y0)) <|
    some (y0, S2)
  ) else (
    lt1 (teu S1 369 2 ((S1 369 2) + (1 : Int32))) fun S3 =>
    chk (decide (y0 &&& 1 = y0)) <|
    some (y0, S3)
  )
def fX6_eat (x1 : Int32) (S : teS) : Option (Int32 × teS) :=
  if (S 369 1) ≤ (S 369 2) then (
    fX6_eat_29 x1 S (0 : Int32)
  ) else (
    chk (tein (S 369 2) 90) <|
    if (S 370 (S 369 2).toNatClampNeg) = x1 then (
      fX6_eat_29 x1 S (1 : Int32)
    ) else (
      fX6_eat_29 x1 S (0 : Int32)
    )
  )
def fX6_digit_29 (x1 : Int32) (S1 : teS) (y0 : Int32) : Option (Int32 × teS) :=
  bd1 (fX6_in ((y0).toInt64) (0 : Int64) ((x1).toInt64) S1) fun r_3 =>
  if r_3 = 0 then (
    lt1 (teu S1 369 2 ((S1 369 2) + (0 : Int32))) fun S2 =>
    if r_3 = 0 then (
      some ((-9999 : Int32), S2)
    ) else (
      some (y0, S2)
    )
  ) else (
    lt1 (teu S1 369 2 ((S1 369 2) + (1 : Int32))) fun S3 =>
    if r_3 = 0 then (
      some ((-9999 : Int32), S3)
    ) else (
      some (y0, S3)
    )
  )
def fX6_digit (x1 : Int32) (S : teS) : Option (Int32 × teS) :=
  if (S 369 1) ≤ (S 369 2) then (
    fX6_digit_29 x1 S (-9999 : Int32)
  ) else (
    chk (tein (S 369 2) 90) <|
    fX6_digit_29 x1 S ((S 370 (S 369 2).toNatClampNeg) - (48 : Int32))
  )
def fX6_readMember_130 (S1 : teS) (v1 : Int32) (v3 : Int32) (y0 : Int32) : Option (Int32 × teS) :=
  if y0 = (-9999 : Int32) then (
    some ((0 : Int32), S1)
  ) else (
    chk (tein (v1 + (5 : Int32)) 92) <|
    lt1 (teu S1 371 (v1 + (5 : Int32)).toNatClampNeg (0 : Int32)) fun S2 =>
    chk (tein (v1 + (6 : Int32)) 92) <|
    lt1 (teu S2 371 (v1 + (6 : Int32)).toNatClampNeg (((10 : Int32) * v3) + y0)) fun S3 =>
    chk (tein (v1 + (7 : Int32)) 92) <|
    lt1 (teu S3 371 (v1 + (7 : Int32)).toNatClampNeg (0 : Int32)) fun S4 =>
    chk (tein (0 : Int32) 92) <|
    bd1 (fX6_free 371 (S4 371 (0 : Int32).toNatClampNeg) S4) fun S5 =>
    lt1 (teu S5 371 (0 : Int32).toNatClampNeg ((S5 371 (0 : Int32).toNatClampNeg) + (1 : Int32))) fun S6 =>
    some ((1 : Int32), S6)
  )
def fX6_readMember_110 (S1 : teS) (v1 : Int32) (y0 : Int32) : Option (Int32 × teS) :=
  if y0 = (-9999 : Int32) then (
    fX6_readMember_130 S1 v1 y0 (-9999 : Int32)
  ) else (
    bd2 (fX6_digit (9 : Int32) S1) fun r_21 S2 =>
    fX6_readMember_130 S2 v1 y0 r_21
  )
def fX6_readMember_45 : Nat → teS → Int32 → Int32 → Int32 → Option (Int32 × teS)
  | 0, _, _, _, _ => none
  | n + 1, S1, v1, v2, v3 =>
    if (4 : Int32) ≤ v3 then (
      if v2 = 0 then (
        fX6_readMember_110 S1 v1 (-9999 : Int32)
      ) else (
        bd2 (fX6_digit (9 : Int32) S1) fun r_10 S2 =>
        fX6_readMember_110 S2 v1 r_10
      )
    ) else (
      if v2 = 0 then (
        if v2 = 0 then (
          fX6_readMember_110 S1 v1 (-9999 : Int32)
        ) else (
          bd2 (fX6_digit (9 : Int32) S1) fun r_14 S3 =>
          fX6_readMember_110 S3 v1 r_14
        )
      ) else (
        bd2 (fX6_digit (9 : Int32) S1) fun r_16 S4 =>
        chk (tein (v1 + v3) 92) <|
        lt1 (teu S4 371 (v1 + v3).toNatClampNeg r_16) fun S5 =>
        if (S5 371 (v1 + v3).toNatClampNeg) = (-9999 : Int32) then (
          fX6_readMember_45 n S5 v1 (0 : Int32) (v3 + (1 : Int32))
        ) else (
          fX6_readMember_45 n S5 v1 (1 : Int32) (v3 + (1 : Int32))
        )
      )
    )
def fX6_readMember (S : teS) : Option (Int32 × teS) :=
  chk (tein (0 : Int32) 92) <|
  bd1 (fX6_at (S 371 (0 : Int32).toNatClampNeg) S) fun r_2 =>
  bd2 (fX6_digit (3 : Int32) S) fun r_4 S1 =>
  chk (tein (r_2 + (4 : Int32)) 92) <|
  lt1 (teu S1 371 (r_2 + (4 : Int32)).toNatClampNeg r_4) fun S2 =>
  if (S2 371 (r_2 + (4 : Int32)).toNatClampNeg) = (-9999 : Int32) then (
    fX6_readMember_45 2000 S2 r_2 (0 : Int32) (0 : Int32)
  ) else (
    fX6_readMember_45 2000 S2 r_2 (1 : Int32) (0 : Int32)
  )
def fX6_readAll_30 : Nat → teS → Option (Int32 × teS)
  | 0, _ => none
  | n + 1, S1 =>
    chk (tein (0 : Int32) 92) <|
    if (9 : Int32) ≤ (S1 371 (0 : Int32).toNatClampNeg) then (
      if (S1 369 2) = (S1 369 1) then (
        some ((1 : Int32), S1)
      ) else (
        some ((0 : Int32), S1)
      )
    ) else (
      bd2 (fX6_eat (109 : Int32) S1) fun r_9 S2 =>
      if r_9 = 0 then (
        if (S2 369 2) = (S2 369 1) then (
          some ((1 : Int32), S2)
        ) else (
          some ((0 : Int32), S2)
        )
      ) else (
        bd2 (fX6_readMember S2) fun r_13 S3 =>
        if r_13 = 0 then (
          some ((0 : Int32), S3)
        ) else (
          fX6_readAll_30 n S3
        )
      )
    )
def fX6_readAll (S : teS) : Option (Int32 × teS) :=
  lt1 (teu S 369 2 (0 : Int32)) fun S1 =>
  chk (tein (0 : Int32) 92) <|
  lt1 (teu S1 371 (0 : Int32).toNatClampNeg (0 : Int32)) fun S2 =>
  chk (tein (1 : Int32) 92) <|
  lt1 (teu S2 371 (1 : Int32).toNatClampNeg (0 : Int32)) fun S3 =>
  bd2 (fX6_eat (76 : Int32) S3) fun r_3 S4 =>
  if r_3 = 0 then (
    some ((0 : Int32), S4)
  ) else (
    fX6_readAll_30 2000 S4
  )
def fX6_errorPosition (S : teS) : Option (Int32 × teS) :=
  lt1 (teu S 369 0 (0 : Int32)) fun S1 =>
  bd2 (fX6_readAll S1) fun r_1 S2 =>
  if r_1 = 0 then (
    some ((S2 369 2), S2)
  ) else (
    some ((-9999 : Int32), S2)
  )
def fX6_load_13 (S1 : teS) (y0 : Int32) : Option (Int32 × teS) :=
  bd2 (fX6_refused y0 S1) fun r_4 S2 =>
  if r_4 = 0 then (
    bd1 (fX6_copyPage 371 (0 : Int32) 372 (0 : Int32) S2) fun S3 =>
    lt1 (teu S3 369 3 (0 : Int32)) fun S4 =>
    chk (tein (0 : Int32) 2) <|
    lt1 (teu S4 376 (0 : Int32).toNatClampNeg (vp_nar .boolean (0 : Int32))) fun S5 =>
    chk (tein (1 : Int32) 2) <|
    lt1 (teu S5 376 (1 : Int32).toNatClampNeg (vp_nar .boolean (0 : Int32))) fun S6 =>
    chk (tein (0 : Int32) 92) <|
    some ((S6 372 (0 : Int32).toNatClampNeg), S6)
  ) else (
    some ((0 : Int32), S2)
  )
def fX6_load (S : teS) : Option (Int32 × teS) :=
  bd2 (fX6_readAll S) fun r_1 S1 =>
  if r_1 = 0 then (
    fX6_load_13 S1 (1 : Int32)
  ) else (
    fX6_load_13 S1 (0 : Int32)
  )
def fX6_over_115 (r0 : Nat) (x1 : Int32) (q4 : teS → Int32 → Int32 → Option Int32) (q16 : teS → Int32 → Int32 → Int32 → Option Int32) (S : teS) (v3 : Int32) (v4 : Int32) (y0 : Int32) (y1 : Int32) : Option Int32 :=
  q16 S (y1 + y0) v3 (v4 + (1 : Int32))
def fX6_over_43 (r0 : Nat) (x1 : Int32) (q4 : teS → Int32 → Int32 → Option Int32) (q16 : teS → Int32 → Int32 → Int32 → Option Int32) (S : teS) (v2 : Int32) (v3 : Int32) (v4 : Int32) (y0 : Int32) : Option Int32 :=
  if x1 = (1 : Int32) then (
    if y0 = 0 then (
      fX6_over_115 r0 x1 q4 q16 S v3 v4 (0 : Int32) v2
    ) else (
      bd1 (fX6_valueOf r0 v3 v4 S) fun r_20 =>
      fX6_over_115 r0 x1 q4 q16 S v3 v4 r_20 v2
    )
  ) else (
    if x1 = 0 then (
      if y0 = 0 then (
        fX6_over_115 r0 x1 q4 q16 S v3 v4 (0 : Int32) v2
      ) else (
        fX6_over_115 r0 x1 q4 q16 S v3 v4 (1 : Int32) v2
      )
    ) else (
      if x1 = (2 : Int32) then (
        bd1 (fX6_block r0 v3 v4 S) fun r_15 =>
        if r_15 = 0 then (
          fX6_over_115 r0 x1 q4 q16 S v3 v4 (0 : Int32) v2
        ) else (
          fX6_over_115 r0 x1 q4 q16 S v3 v4 (1 : Int32) v2
        )
      ) else (
        bd1 (fX6_fit r0 v3 v4 S) fun r_12 =>
        if r_12 = 0 then (
          fX6_over_115 r0 x1 q4 q16 S v3 v4 (0 : Int32) v2
        ) else (
          fX6_over_115 r0 x1 q4 q16 S v3 v4 (1 : Int32) v2
        )
      )
    )
  )
def fX6_over_16 (r0 : Nat) (x1 : Int32) (q4 : teS → Int32 → Int32 → Option Int32) : Nat → teS → Int32 → Int32 → Int32 → Option Int32
  | 0, _, _, _, _ => none
  | n + 1, S, v2, v3, v4 =>
    chk (tein (0 : Int32) (teI r0)) <|
    if (S r0 (0 : Int32).toNatClampNeg) ≤ v4 then (
      q4 S v2 (v3 + (1 : Int32))
    ) else (
      bd1 (fX6_at v3 S) fun r_5 =>
      chk (tein (r_5 + (8 : Int32)) (teI r0)) <|
      if (S r0 (r_5 + (8 : Int32)).toNatClampNeg) = v4 then (
        fX6_over_43 r0 x1 q4 (fX6_over_16 r0 x1 q4 n) S v2 v3 v4 (1 : Int32)
      ) else (
        fX6_over_43 r0 x1 q4 (fX6_over_16 r0 x1 q4 n) S v2 v3 v4 (0 : Int32)
      )
    )
def fX6_over_4 (r0 : Nat) (x1 : Int32) : Nat → teS → Int32 → Int32 → Option Int32
  | 0, _, _, _ => none
  | n + 1, S, v2, v3 =>
    chk (tein (0 : Int32) (teI r0)) <|
    if (S r0 (0 : Int32).toNatClampNeg) ≤ v3 then (
      some v2
    ) else (
      fX6_over_16 r0 x1 (fX6_over_4 r0 x1 n) 2000 S v2 v3 (v3 + (1 : Int32))
    )
def fX6_over (r0 : Nat) (x1 : Int32) (S : teS) : Option Int32 :=
  fX6_over_4 r0 x1 2000 S (0 : Int32) (0 : Int32)
def fX6_creditsOf_4 (r0 : Nat) : Nat → teS → Int32 → Int32 → Option Int32
  | 0, _, _, _ => none
  | n + 1, S, v1, v2 =>
    chk (tein (0 : Int32) (teI r0)) <|
    if (S r0 (0 : Int32).toNatClampNeg) ≤ v2 then (
      some v1
    ) else (
      bd1 (fX6_at v2 S) fun r_3 =>
      chk (tein (r_3 + (6 : Int32)) (teI r0)) <|
      fX6_creditsOf_4 r0 n S (v1 + (S r0 (r_3 + (6 : Int32)).toNatClampNeg)) (v2 + (1 : Int32))
    )
def fX6_creditsOf (r0 : Nat) (S : teS) : Option Int32 :=
  fX6_creditsOf_4 r0 2000 S (0 : Int32) (0 : Int32)
def fX6_about_18 (x1 : Int32) (S1 : teS) (y0 : Int32) : Option (Int32 × teS) :=
  bd2 (fX6_refused y0 S1) fun r_4 S2 =>
  if r_4 = 0 then (
    if x1 = (0 : Int32) then (
      chk (tein (0 : Int32) 92) <|
      some ((S2 372 (0 : Int32).toNatClampNeg), S2)
    ) else (
    if x1 = (1 : Int32) then (
      bd1 (fX6_over 372 (0 : Int32) S2) fun r_10 =>
      some (r_10, S2)
    ) else (
    if x1 = (2 : Int32) then (
      chk (tein (1 : Int32) 92) <|
      some ((S2 372 (1 : Int32).toNatClampNeg), S2)
    ) else (
    if x1 = (3 : Int32) then (
      bd1 (fX6_over 372 (1 : Int32) S2) fun r_15 =>
      some (r_15, S2)
    ) else (
    if x1 = (4 : Int32) then (
      bd1 (fX6_over 372 (2 : Int32) S2) fun r_18 =>
      some (r_18, S2)
    ) else (
    if x1 = (5 : Int32) then (
      bd1 (fX6_creditsOf 372 S2) fun r_21 =>
      some (r_21, S2)
    ) else (
      bd1 (fX6_over 372 (3 : Int32) S2) fun r_23 =>
      some (r_23, S2)
    ))))))
  ) else (
    some ((0 : Int32), S2)
  )
def fX6_about (x1 : Int32) (S : teS) : Option (Int32 × teS) :=
  bd1 (fX6_in ((x1).toInt64) (0 : Int64) (6 : Int64) S) fun r_1 =>
  if r_1 = 0 then (
    fX6_about_18 x1 S (1 : Int32)
  ) else (
    fX6_about_18 x1 S (0 : Int32)
  )
def fX6_detail_50 (r0 : Nat) (x1 : Int32) (x2 : Int32) : Nat → teS → Int32 → Int32 → Option Int32
  | 0, _, _, _ => none
  | n + 1, S, v3, v4 =>
    chk (tein (0 : Int32) (teI r0)) <|
    if (S r0 (0 : Int32).toNatClampNeg) ≤ v4 then (
      some v3
    ) else (
      bd1 (fX6_fit r0 x1 v4 S) fun r_14 =>
      if r_14 = 0 then (
        fX6_detail_50 r0 x1 x2 n S (v3 + (0 : Int32)) (v4 + (1 : Int32))
      ) else (
        fX6_detail_50 r0 x1 x2 n S (v3 + (1 : Int32)) (v4 + (1 : Int32))
      )
    )
def fX6_detail (r0 : Nat) (x1 : Int32) (x2 : Int32) (S : teS) : Option Int32 :=
  if x2 = (9 : Int32) then (
    bd1 (fX6_isFree r0 x1 S) fun r_6 =>
    if r_6 = 0 then (
      bd1 (fX6_at x1 S) fun r_9 =>
      chk (tein (r_9 + (9 : Int32)) (teI r0)) <|
      some (S r0 (r_9 + (9 : Int32)).toNatClampNeg)
    ) else (
      some (-9999 : Int32)
    )
  ) else (
    if (9 : Int32) ≤ x2 then (
      fX6_detail_50 r0 x1 x2 2000 S (0 : Int32) (0 : Int32)
    ) else (
      bd1 (fX6_at x1 S) fun r_3 =>
      chk (tein (r_3 + x2) (teI r0)) <|
      some (S r0 (r_3 + x2).toNatClampNeg)
    )
  )
def fX6_member_33 (x1 : Int32) (x2 : Int32) (S1 : teS) (y0 : Int32) : Option (Int32 × teS) :=
  bd2 (fX6_refused y0 S1) fun r_7 S2 =>
  if r_7 = 0 then (
    bd1 (fX6_detail 372 x1 x2 S2) fun r_10 =>
    some (r_10, S2)
  ) else (
    some ((0 : Int32), S2)
  )
def fX6_member (x1 : Int32) (x2 : Int32) (S : teS) : Option (Int32 × teS) :=
  bd1 (fX6_isMember 372 x1 S) fun r_1 =>
  if r_1 = 0 then (
    fX6_member_33 x1 x2 S (1 : Int32)
  ) else (
    bd1 (fX6_in ((x2).toInt64) (0 : Int64) (10 : Int64) S) fun r_4 =>
    if r_4 = 0 then (
      fX6_member_33 x1 x2 S (2 : Int32)
    ) else (
      fX6_member_33 x1 x2 S (0 : Int32)
    )
  )
def fX6_both_49 (x1 : Int32) (x2 : Int32) (x3 : Int32) (S1 : teS) (y0 : Int32) : Option (Int32 × teS) :=
  bd2 (fX6_refused y0 S1) fun r_11 S2 =>
  if r_11 = 0 then (
    if x3 = 0 then (
      bd1 (fX6_score 372 x1 x2 S2) fun r_25 =>
      some (r_25, S2)
    ) else (
      if x3 = (1 : Int32) then (
        bd1 (fX6_valueOf 372 x1 x2 S2) fun r_23 =>
        some (r_23, S2)
      ) else (
        if x3 = (2 : Int32) then (
          bd1 (fX6_fit 372 x1 x2 S2) fun r_20 =>
          if r_20 = 0 then (
            some ((0 : Int32), S2)
          ) else (
            some ((1 : Int32), S2)
          )
        ) else (
          bd1 (fX6_block 372 x1 x2 S2) fun r_17 =>
          if r_17 = 0 then (
            some ((0 : Int32), S2)
          ) else (
            some ((1 : Int32), S2)
          )
        )
      )
    )
  ) else (
    some ((0 : Int32), S2)
  )
def fX6_both (x1 : Int32) (x2 : Int32) (x3 : Int32) (S : teS) : Option (Int32 × teS) :=
  bd1 (fX6_isMember 372 x1 S) fun r_1 =>
  if r_1 = 0 then (
    fX6_both_49 x1 x2 x3 S (1 : Int32)
  ) else (
    bd1 (fX6_isMember 372 x2 S) fun r_4 =>
    if r_4 = 0 then (
      fX6_both_49 x1 x2 x3 S (1 : Int32)
    ) else (
      if x1 = x2 then (
        fX6_both_49 x1 x2 x3 S (2 : Int32)
      ) else (
        bd1 (fX6_in ((x3).toInt64) (0 : Int64) (3 : Int64) S) fun r_8 =>
        if r_8 = 0 then (
          fX6_both_49 x1 x2 x3 S (2 : Int32)
        ) else (
          fX6_both_49 x1 x2 x3 S (0 : Int32)
        )
      )
    )
  )
def fX6_note_49 (S1 : teS) : Option teS :=
  bd1 (fX6_copyPage 372 (0 : Int32) 374 ((92 : Int32) * (S1 369 3)) S1) fun S2 =>
  lt1 (teu S2 369 3 ((S2 369 3) + (1 : Int32))) fun S3 =>
  some S3
def fX6_note_11 : Nat → teS → Int32 → Option teS
  | 0, _, _ => none
  | n + 1, S1, v1 =>
    if (1196 : Int32) ≤ v1 then (
      lt1 (teu S1 369 3 ((S1 369 3) - (1 : Int32))) fun S2 =>
      fX6_note_49 S2
    ) else (
      chk (tein (v1 + (92 : Int32)) 1288) <|
      chk (tein v1 1288) <|
      lt1 (teu S1 374 v1.toNatClampNeg (S1 374 (v1 + (92 : Int32)).toNatClampNeg)) fun S3 =>
      fX6_note_11 n S3 (v1 + (1 : Int32))
    )
def fX6_note (S : teS) : Option teS :=
  if (S 369 3) = (14 : Int32) then (
    fX6_note_11 2000 S (0 : Int32)
  ) else (
    fX6_note_49 S
  )
def fX6_join_100 (x1 : Int32) (x2 : Int32) (x3 : Int32) : Nat → teS → Int32 → Int32 → Int32 → Option (Int32 × teS)
  | 0, _, _, _, _ => none
  | n + 1, S1, v5, v6, v7 =>
    if v7 < 0 then (
      chk (tein (v5 + (4 : Int32)) 92) <|
      lt1 (teu S1 372 (v5 + (4 : Int32)).toNatClampNeg x1) fun S2 =>
      chk (tein (v5 + (5 : Int32)) 92) <|
      lt1 (teu S2 372 (v5 + (5 : Int32)).toNatClampNeg (0 : Int32)) fun S3 =>
      chk (tein (v5 + (6 : Int32)) 92) <|
      lt1 (teu S3 372 (v5 + (6 : Int32)).toNatClampNeg x3) fun S4 =>
      chk (tein (v5 + (7 : Int32)) 92) <|
      lt1 (teu S4 372 (v5 + (7 : Int32)).toNatClampNeg (0 : Int32)) fun S5 =>
      chk (tein (0 : Int32) 92) <|
      bd1 (fX6_free 372 (S5 372 (0 : Int32).toNatClampNeg) S5) fun S6 =>
      lt1 (teu S6 372 (0 : Int32).toNatClampNeg ((S6 372 (0 : Int32).toNatClampNeg) + (1 : Int32))) fun S7 =>
      some (((S7 372 (0 : Int32).toNatClampNeg) - (1 : Int32)), S7)
    ) else (
      chk (tein (v5 + v7) 92) <|
      lt1 (teu S1 372 (v5 + v7).toNatClampNeg (v6 - v6 / (10 : Int32) * (10 : Int32))) fun S8 =>
      fX6_join_100 x1 x2 x3 n S8 v5 (v6 / (10 : Int32)) (v7 + (-1 : Int32))
    )
def fX6_join_71 (x1 : Int32) (x2 : Int32) (x3 : Int32) (S1 : teS) (y0 : Int32) : Option (Int32 × teS) :=
  bd2 (fX6_refused y0 S1) fun r_13 S2 =>
  if r_13 = 0 then (
    bd1 (fX6_note S2) fun S3 =>
    chk (tein (0 : Int32) 92) <|
    bd1 (fX6_at (S3 372 (0 : Int32).toNatClampNeg) S3) fun r_19 =>
    fX6_join_100 x1 x2 x3 2000 S3 r_19 x2 (3 : Int32)
  ) else (
    some ((0 : Int32), S2)
  )
def fX6_join_43 (x1 : Int32) (x2 : Int32) (x3 : Int32) (S1 : teS) (y0 : Int32) : Option (Int32 × teS) :=
  if y0 = 0 then (
    fX6_join_71 x1 x2 x3 S1 (1 : Int32)
  ) else (
    chk (tein (0 : Int32) 92) <|
    if (S1 372 (0 : Int32).toNatClampNeg) = (9 : Int32) then (
      fX6_join_71 x1 x2 x3 S1 (2 : Int32)
    ) else (
      fX6_join_71 x1 x2 x3 S1 (0 : Int32)
    )
  )
def fX6_join (x1 : Int32) (x2 : Int32) (x3 : Int32) (S : teS) : Option (Int32 × teS) :=
  bd1 (fX6_in ((x1).toInt64) (0 : Int64) (3 : Int64) S) fun r_1 =>
  if r_1 = 0 then (
    fX6_join_43 x1 x2 x3 S (0 : Int32)
  ) else (
    bd1 (fX6_in ((x2).toInt64) (0 : Int64) (9999 : Int64) S) fun r_4 =>
    if r_4 = 0 then (
      fX6_join_43 x1 x2 x3 S (0 : Int32)
    ) else (
      bd1 (fX6_in ((x3).toInt64) (-99 : Int64) (99 : Int64) S) fun r_7 =>
      if r_7 = 0 then (
        fX6_join_43 x1 x2 x3 S (0 : Int32)
      ) else (
        fX6_join_43 x1 x2 x3 S (1 : Int32)
      )
    )
  )
def fX6_leave_97 (x1 : Int32) : Nat → teS → Int32 → Int32 → Option (Int32 × teS)
  | 0, _, _, _ => none
  | n + 1, S1, v2, v3 =>
    chk (tein (0 : Int32) 92) <|
    if (S1 372 (0 : Int32).toNatClampNeg) ≤ v3 then (
      some (v2, S1)
    ) else (
      bd1 (fX6_at v3 S1) fun r_22 =>
      chk (tein (r_22 + (8 : Int32)) 92) <|
      bd1 (fX6_at v3 S1) fun r_25 =>
      if (S1 372 (r_22 + (8 : Int32)).toNatClampNeg) ≤ x1 then (
        chk (tein (r_25 + (8 : Int32)) 92) <|
        lt1 (teu S1 372 (r_25 + (8 : Int32)).toNatClampNeg (S1 372 (r_22 + (8 : Int32)).toNatClampNeg)) fun S2 =>
        fX6_leave_97 x1 n S2 v2 (v3 + (1 : Int32))
      ) else (
        chk (tein (r_25 + (8 : Int32)) 92) <|
        lt1 (teu S1 372 (r_25 + (8 : Int32)).toNatClampNeg ((S1 372 (r_22 + (8 : Int32)).toNatClampNeg) - (1 : Int32))) fun S3 =>
        fX6_leave_97 x1 n S3 v2 (v3 + (1 : Int32))
      )
    )
def fX6_leave_55 (x1 : Int32) : Nat → teS → Int32 → Int32 → Option (Int32 × teS)
  | 0, _, _, _ => none
  | n + 1, S1, v2, v3 =>
    if (92 : Int32) ≤ (v3 + (10 : Int32)) then (
      chk (tein (0 : Int32) 92) <|
      lt1 (teu S1 372 (0 : Int32).toNatClampNeg ((S1 372 (0 : Int32).toNatClampNeg) - (1 : Int32))) fun S2 =>
      fX6_leave_97 x1 2000 S2 v2 (0 : Int32)
    ) else (
      chk (tein (v3 + (10 : Int32)) 92) <|
      chk (tein v3 92) <|
      lt1 (teu S1 372 v3.toNatClampNeg (S1 372 (v3 + (10 : Int32)).toNatClampNeg)) fun S3 =>
      fX6_leave_55 x1 n S3 v2 (v3 + (1 : Int32))
    )
def fX6_leave_17 (x1 : Int32) (S1 : teS) (y0 : Int32) : Option (Int32 × teS) :=
  bd2 (fX6_refused y0 S1) fun r_4 S2 =>
  if r_4 = 0 then (
    bd1 (fX6_note S2) fun S3 =>
    bd1 (fX6_at x1 S3) fun r_9 =>
    chk (tein (r_9 + (6 : Int32)) 92) <|
    bd1 (fX6_partOn 372 x1 S3) fun S4 =>
    bd1 (fX6_at x1 S4) fun r_14 =>
    fX6_leave_55 x1 2000 S4 (S3 372 (r_9 + (6 : Int32)).toNatClampNeg) r_14
  ) else (
    some ((0 : Int32), S2)
  )
def fX6_leave (x1 : Int32) (S : teS) : Option (Int32 × teS) :=
  bd1 (fX6_isMember 372 x1 S) fun r_1 =>
  if r_1 = 0 then (
    fX6_leave_17 x1 S (1 : Int32)
  ) else (
    fX6_leave_17 x1 S (0 : Int32)
  )
def fX6_isTongue (x0 : Int32) (S : teS) : Option Int32 :=
  bd1 (fX6_in ((x0).toInt64) (0 : Int64) (3 : Int64) S) fun r_1 =>
  chk (decide (r_1 &&& 1 = r_1)) <|
  some r_1
def fX6_want_28 (x1 : Int32) (x2 : Int32) (S1 : teS) (y0 : Int32) : Option (Int32 × teS) :=
  bd2 (fX6_refused y0 S1) fun r_7 S2 =>
  if r_7 = 0 then (
    bd1 (fX6_note S2) fun S3 =>
    bd1 (fX6_at x1 S3) fun r_12 =>
    chk (tein (r_12 + (4 : Int32)) 92) <|
    bd1 (fX6_at x1 S3) fun r_15 =>
    chk (tein (r_15 + (4 : Int32)) 92) <|
    lt1 (teu S3 372 (r_15 + (4 : Int32)).toNatClampNeg x2) fun S4 =>
    bd1 (fX6_at x1 S4) fun r_18 =>
    chk (tein (r_18 + (5 : Int32)) 92) <|
    lt1 (teu S4 372 (r_18 + (5 : Int32)).toNatClampNeg (0 : Int32)) fun S5 =>
    bd1 (fX6_mend 372 x1 S5) fun S6 =>
    some ((S3 372 (r_12 + (4 : Int32)).toNatClampNeg), S6)
  ) else (
    some ((0 : Int32), S2)
  )
def fX6_want (x1 : Int32) (x2 : Int32) (S : teS) : Option (Int32 × teS) :=
  bd1 (fX6_isMember 372 x1 S) fun r_1 =>
  if r_1 = 0 then (
    fX6_want_28 x1 x2 S (1 : Int32)
  ) else (
    bd1 (fX6_isTongue x2 S) fun r_4 =>
    if r_4 = 0 then (
      fX6_want_28 x1 x2 S (2 : Int32)
    ) else (
      fX6_want_28 x1 x2 S (0 : Int32)
    )
  )
def fX6_testOn (r0 : Nat) (x1 : Int32) (x2 : Int32) (x3 : Int32) (S : teS) : Option (Int32 × teS) :=
  bd1 (fX6_at x1 S) fun r_1 =>
  chk (tein (r_1 + x2) (teI r0)) <|
  bd1 (fX6_at x1 S) fun r_4 =>
  chk (tein (r_4 + x2) (teI r0)) <|
  lt1 (teu S r0 (r_4 + x2).toNatClampNeg (x3 / (10 : Int32))) fun S1 =>
  bd1 (fX6_at x1 S1) fun r_7 =>
  bd1 (fX6_at x1 S1) fun r_9 =>
  chk (tein (r_9 + (4 : Int32)) (teI r0)) <|
  if (S1 r0 (r_9 + (4 : Int32)).toNatClampNeg) = x2 then (
    chk (tein (r_7 + (5 : Int32)) (teI r0)) <|
    lt1 (teu S1 r0 (r_7 + (5 : Int32)).toNatClampNeg ((x3 - x3 / (10 : Int32) * (10 : Int32)) * (2 : Int32))) fun S4 =>
    bd1 (fX6_mend r0 x1 S4) fun S5 =>
    some ((S r0 (r_1 + x2).toNatClampNeg), S5)
  ) else (
    bd1 (fX6_at x1 S1) fun r_13 =>
    chk (tein (r_13 + (5 : Int32)) (teI r0)) <|
    chk (tein (r_7 + (5 : Int32)) (teI r0)) <|
    lt1 (teu S1 r0 (r_7 + (5 : Int32)).toNatClampNeg (S1 r0 (r_13 + (5 : Int32)).toNatClampNeg)) fun S2 =>
    bd1 (fX6_mend r0 x1 S2) fun S3 =>
    some ((S r0 (r_1 + x2).toNatClampNeg), S3)
  )
def fX6_test_40 (x1 : Int32) (x2 : Int32) (x3 : Int32) (S1 : teS) (y0 : Int32) : Option (Int32 × teS) :=
  bd2 (fX6_refused y0 S1) fun r_10 S2 =>
  if r_10 = 0 then (
    bd1 (fX6_note S2) fun S3 =>
    bd2 (fX6_testOn 372 x1 x2 x3 S3) fun r_15 S4 =>
    some (r_15, S4)
  ) else (
    some ((0 : Int32), S2)
  )
def fX6_test (x1 : Int32) (x2 : Int32) (x3 : Int32) (S : teS) : Option (Int32 × teS) :=
  bd1 (fX6_isMember 372 x1 S) fun r_1 =>
  if r_1 = 0 then (
    fX6_test_40 x1 x2 x3 S (1 : Int32)
  ) else (
    bd1 (fX6_isTongue x2 S) fun r_4 =>
    if r_4 = 0 then (
      fX6_test_40 x1 x2 x3 S (2 : Int32)
    ) else (
      bd1 (fX6_in ((x3).toInt64) (0 : Int64) (99 : Int64) S) fun r_7 =>
      if r_7 = 0 then (
        fX6_test_40 x1 x2 x3 S (2 : Int32)
      ) else (
        fX6_test_40 x1 x2 x3 S (0 : Int32)
      )
    )
  )
def fX6_canPair (r0 : Nat) (x1 : Int32) (x2 : Int32) (S : teS) : Option Int32 :=
  bd1 (fX6_isFree r0 x1 S) fun r_1 =>
  if r_1 = 0 then (
    some (0 : Int32)
  ) else (
    bd1 (fX6_isFree r0 x2 S) fun r_4 =>
    if r_4 = 0 then (
      some (0 : Int32)
    ) else (
      bd1 (fX6_fit r0 x1 x2 S) fun r_7 =>
      if r_7 = 0 then (
        some (0 : Int32)
      ) else (
        some (1 : Int32)
      )
    )
  )
def fX6_pair_53 (x1 : Int32) (x2 : Int32) (S1 : teS) (y0 : Int32) : Option (Int32 × teS) :=
  bd2 (fX6_refused y0 S1) fun r_11 S2 =>
  if r_11 = 0 then (
    bd1 (fX6_note S2) fun S3 =>
    bd1 (fX6_pairOn 372 x1 x2 S3) fun S4 =>
    bd1 (fX6_valueOf 372 x1 x2 S4) fun r_18 =>
    some (r_18, S4)
  ) else (
    some ((0 : Int32), S2)
  )
def fX6_pair (x1 : Int32) (x2 : Int32) (S : teS) : Option (Int32 × teS) :=
  bd1 (fX6_isMember 372 x1 S) fun r_1 =>
  if r_1 = 0 then (
    fX6_pair_53 x1 x2 S (1 : Int32)
  ) else (
    bd1 (fX6_isMember 372 x2 S) fun r_4 =>
    if r_4 = 0 then (
      fX6_pair_53 x1 x2 S (1 : Int32)
    ) else (
      if x1 = x2 then (
        fX6_pair_53 x1 x2 S (2 : Int32)
      ) else (
        bd1 (fX6_canPair 372 x1 x2 S) fun r_8 =>
        if r_8 = 0 then (
          fX6_pair_53 x1 x2 S (3 : Int32)
        ) else (
          fX6_pair_53 x1 x2 S (0 : Int32)
        )
      )
    )
  )
def fX6_part_32 (x1 : Int32) (S1 : teS) (y0 : Int32) : Option (Int32 × teS) :=
  bd2 (fX6_refused y0 S1) fun r_7 S2 =>
  if r_7 = 0 then (
    bd1 (fX6_note S2) fun S3 =>
    bd1 (fX6_at x1 S3) fun r_12 =>
    chk (tein (r_12 + (8 : Int32)) 92) <|
    bd1 (fX6_partOn 372 x1 S3) fun S4 =>
    some ((S3 372 (r_12 + (8 : Int32)).toNatClampNeg), S4)
  ) else (
    some ((0 : Int32), S2)
  )
def fX6_part (x1 : Int32) (S : teS) : Option (Int32 × teS) :=
  bd1 (fX6_isMember 372 x1 S) fun r_1 =>
  if r_1 = 0 then (
    fX6_part_32 x1 S (1 : Int32)
  ) else (
    bd1 (fX6_isFree 372 x1 S) fun r_4 =>
    if r_4 = 0 then (
      fX6_part_32 x1 S (0 : Int32)
    ) else (
      fX6_part_32 x1 S (2 : Int32)
    )
  )
def fX6_match (S : teS) : Option (Int32 × teS) :=
  lt1 (teu S 369 0 (0 : Int32)) fun S1 =>
  bd1 (fX6_note S1) fun S2 =>
  bd2 (fX6_matchOn 372 S2) fun r_3 S3 =>
  some (r_3, S3)
def fX6_settle_18 (x1 : Int32) (S1 : teS) (y0 : Int32) : Option (Int32 × teS) :=
  bd2 (fX6_refused y0 S1) fun r_4 S2 =>
  if r_4 = 0 then (
    bd1 (fX6_note S2) fun S3 =>
    bd2 (fX6_settleOn 372 x1 S3) fun r_9 S4 =>
    some (r_9, S4)
  ) else (
    some ((0 : Int32), S2)
  )
def fX6_settle (x1 : Int32) (S : teS) : Option (Int32 × teS) :=
  bd1 (fX6_in ((x1).toInt64) (1 : Int64) (50 : Int64) S) fun r_1 =>
  if r_1 = 0 then (
    fX6_settle_18 x1 S (1 : Int32)
  ) else (
    fX6_settle_18 x1 S (0 : Int32)
  )
def fX6_isAbsent (x0 : Int32) (S : teS) : Option Int32 :=
  bd1 (fX6_in ((x0).toInt64) (0 : Int64) (511 : Int64) S) fun r_1 =>
  chk (decide (r_1 &&& 1 = r_1)) <|
  some r_1
def fX6_week_13 (x1 : Int32) (S1 : teS) (y0 : Int32) : Option (Int32 × teS) :=
  bd2 (fX6_refused y0 S1) fun r_4 S2 =>
  if r_4 = 0 then (
    bd1 (fX6_note S2) fun S3 =>
    bd1 (fX6_weekOn 372 x1 S3) fun S4 =>
    bd1 (fX6_over 372 (0 : Int32) S4) fun r_11 =>
    some (r_11, S4)
  ) else (
    some ((0 : Int32), S2)
  )
def fX6_week (x1 : Int32) (S : teS) : Option (Int32 × teS) :=
  bd1 (fX6_isAbsent x1 S) fun r_1 =>
  if r_1 = 0 then (
    fX6_week_13 x1 S (1 : Int32)
  ) else (
    fX6_week_13 x1 S (0 : Int32)
  )
def fX6_undo_13 (S1 : teS) (y0 : Int32) : Option (Int32 × teS) :=
  bd2 (fX6_refused y0 S1) fun r_2 S2 =>
  if r_2 = 0 then (
    lt1 (teu S2 369 3 ((S2 369 3) - (1 : Int32))) fun S3 =>
    bd1 (fX6_copyPage 374 ((92 : Int32) * (S3 369 3)) 372 (0 : Int32) S3) fun S4 =>
    some ((S4 369 3), S4)
  ) else (
    some ((0 : Int32), S2)
  )
def fX6_undo (S : teS) : Option (Int32 × teS) :=
  if (S 369 3) = 0 then (
    fX6_undo_13 S (1 : Int32)
  ) else (
    fX6_undo_13 S (0 : Int32)
  )
def fX6_blocking_10 (x1 : Int32) (x2 : Int32) (S1 : teS) (y0 : Int32) : Option (Int32 × teS) :=
  bd2 (fX6_refused y0 S1) fun r_2 S2 =>
  if r_2 = 0 then (
    bd1 (fX6_blockAt 372 x1 S2) fun r_5 =>
    if r_5 = (-9999 : Int32) then (
      some ((-9999 : Int32), S2)
    ) else (
      if x2 = 0 then (
        some ((r_5 / (10 : Int32)), S2)
      ) else (
        some ((r_5 - r_5 / (10 : Int32) * (10 : Int32)), S2)
      )
    )
  ) else (
    some ((0 : Int32), S2)
  )
def fX6_blocking (x1 : Int32) (x2 : Int32) (S : teS) : Option (Int32 × teS) :=
  if x1 < 0 then (
    fX6_blocking_10 x1 x2 S (1 : Int32)
  ) else (
    fX6_blocking_10 x1 x2 S (0 : Int32)
  )
def fX6_bestPartner_77 (x1 : Int32) (x2 : Int32) (q32 : teS → Int32 → Int32 → Option (Int32 × teS)) (S1 : teS) (v3 : Int32) (v4 : Int32) (y0 : Int32) : Option (Int32 × teS) :=
  if y0 = 0 then (
    q32 S1 v3 (v4 + (1 : Int32))
  ) else (
    if v3 = (-9999 : Int32) then (
      q32 S1 v4 (v4 + (1 : Int32))
    ) else (
      bd1 (fX6_score 372 x1 v4 S1) fun r_21 =>
      bd1 (fX6_score 372 x1 v3 S1) fun r_23 =>
      if r_21 ≤ r_23 then (
        q32 S1 v3 (v4 + (1 : Int32))
      ) else (
        q32 S1 v4 (v4 + (1 : Int32))
      )
    )
  )
def fX6_bestPartner_32 (x1 : Int32) (x2 : Int32) : Nat → teS → Int32 → Int32 → Option (Int32 × teS)
  | 0, _, _, _ => none
  | n + 1, S1, v3, v4 =>
    chk (tein (0 : Int32) 92) <|
    if (S1 372 (0 : Int32).toNatClampNeg) ≤ v4 then (
      some (v3, S1)
    ) else (
      bd1 (fX6_fit 372 x1 v4 S1) fun r_12 =>
      if r_12 = 0 then (
        fX6_bestPartner_77 x1 x2 (fX6_bestPartner_32 x1 x2 n) S1 v3 v4 (0 : Int32)
      ) else (
        if x2 = 0 then (
          fX6_bestPartner_77 x1 x2 (fX6_bestPartner_32 x1 x2 n) S1 v3 v4 (1 : Int32)
        ) else (
          bd1 (fX6_isFree 372 v4 S1) fun r_16 =>
          if r_16 = 0 then (
            fX6_bestPartner_77 x1 x2 (fX6_bestPartner_32 x1 x2 n) S1 v3 v4 (0 : Int32)
          ) else (
            fX6_bestPartner_77 x1 x2 (fX6_bestPartner_32 x1 x2 n) S1 v3 v4 (1 : Int32)
          )
        )
      )
    )
def fX6_bestPartner (x1 : Int32) (x2 : Int32) (S : teS) : Option (Int32 × teS) :=
  bd1 (fX6_isMember 372 x1 S) fun r_1 =>
  if r_1 = 0 then (
    bd2 (fX6_refused (1 : Int32) S) fun r_4 S1 =>
    if r_4 = 0 then (
      fX6_bestPartner_32 x1 x2 2000 S1 (-9999 : Int32) (0 : Int32)
    ) else (
      some ((0 : Int32), S1)
    )
  ) else (
    bd2 (fX6_refused (0 : Int32) S) fun r_7 S2 =>
    if r_7 = 0 then (
      fX6_bestPartner_32 x1 x2 2000 S2 (-9999 : Int32) (0 : Int32)
    ) else (
      some ((0 : Int32), S2)
    )
  )
def fX6_best_16 (x1 : Int32) (S1 : teS) (y0 : Int32) : Option (Int32 × teS) :=
  bd2 (fX6_refused y0 S1) fun r_4 S2 =>
  if r_4 = 0 then (
    bd1 (fX6_laySets 372 S2) fun S3 =>
    chk (tein (0 : Int32) 92) <|
    if x1 = 0 then (
      chk (tein (((1 : Int32) <<< ((S3 372 (0 : Int32).toNatClampNeg) &&& 31)) - (1 : Int32)) 512) <|
      some ((S3 377 (((1 : Int32) <<< ((S3 372 (0 : Int32).toNatClampNeg) &&& 31)) - (1 : Int32)).toNatClampNeg), S3)
    ) else (
      chk (tein (((1 : Int32) <<< ((S3 372 (0 : Int32).toNatClampNeg) &&& 31)) - (1 : Int32)) 512) <|
      some ((S3 378 (((1 : Int32) <<< ((S3 372 (0 : Int32).toNatClampNeg) &&& 31)) - (1 : Int32)).toNatClampNeg), S3)
    )
  ) else (
    some ((0 : Int32), S2)
  )
def fX6_best (x1 : Int32) (S : teS) : Option (Int32 × teS) :=
  bd1 (fX6_in ((x1).toInt64) (0 : Int64) (1 : Int64) S) fun r_1 =>
  if r_1 = 0 then (
    fX6_best_16 x1 S (1 : Int32)
  ) else (
    fX6_best_16 x1 S (0 : Int32)
  )
def fX6_missedMost_127 (q33 : teS → Int32 → Int32 → Int32 → Int32 → Option (Int32 × teS)) (S1 : teS) (v1 : Int32) (v3 : Int32) (v4 : Int32) (v5 : Int32) (v6 : Int32) (y0 : Int32) : Option (Int32 × teS) :=
  if v6 = 0 then (
    q33 S1 v1 y0 v3 (v4 + (1 : Int32))
  ) else (
    q33 S1 v1 y0 v5 (v4 + (1 : Int32))
  )
def fX6_missedMost_109 (q33 : teS → Int32 → Int32 → Int32 → Int32 → Option (Int32 × teS)) (S1 : teS) (v1 : Int32) (v2 : Int32) (v3 : Int32) (v4 : Int32) (v5 : Int32) : Option (Int32 × teS) :=
  if (1 : Int32) = 0 then (
    fX6_missedMost_127 q33 S1 v1 v3 v4 v5 (1 : Int32) v2
  ) else (
    fX6_missedMost_127 q33 S1 v1 v3 v4 v5 (1 : Int32) v4
  )
def fX6_missedMost_33 : Nat → teS → Int32 → Int32 → Int32 → Int32 → Option (Int32 × teS)
  | 0, _, _, _, _, _ => none
  | n + 1, S1, v1, v2, v3, v4 =>
    chk (tein (0 : Int32) 92) <|
    if (S1 372 (0 : Int32).toNatClampNeg) ≤ v4 then (
      some (v2, S1)
    ) else (
      if v2 = (-9999 : Int32) then (
        fX6_missedMost_109 (fX6_missedMost_33 n) S1 v1 v2 v3 v4 (v1 &&& (((1 : Int32) <<< (v4 &&& 31)) ^^^ (-1 : Int32)))
      ) else (
        chk (tein (v1 &&& (((1 : Int32) <<< (v4 &&& 31)) ^^^ (-1 : Int32))) 512) <|
        chk (tein v3 512) <|
        if (S1 377 (v1 &&& (((1 : Int32) <<< (v4 &&& 31)) ^^^ (-1 : Int32))).toNatClampNeg) < (S1 377 v3.toNatClampNeg) then (
          fX6_missedMost_109 (fX6_missedMost_33 n) S1 v1 v2 v3 v4 (v1 &&& (((1 : Int32) <<< (v4 &&& 31)) ^^^ (-1 : Int32)))
        ) else (
          if (S1 377 (v1 &&& (((1 : Int32) <<< (v4 &&& 31)) ^^^ (-1 : Int32))).toNatClampNeg) = (S1 377 v3.toNatClampNeg) then (
            if (S1 378 v3.toNatClampNeg) ≤ (S1 378 (v1 &&& (((1 : Int32) <<< (v4 &&& 31)) ^^^ (-1 : Int32))).toNatClampNeg) then (
              if (0 : Int32) = 0 then (
                fX6_missedMost_127 (fX6_missedMost_33 n) S1 v1 v3 v4 (v1 &&& (((1 : Int32) <<< (v4 &&& 31)) ^^^ (-1 : Int32))) (0 : Int32) v2
              ) else (
                fX6_missedMost_127 (fX6_missedMost_33 n) S1 v1 v3 v4 (v1 &&& (((1 : Int32) <<< (v4 &&& 31)) ^^^ (-1 : Int32))) (0 : Int32) v4
              )
            ) else (
              fX6_missedMost_109 (fX6_missedMost_33 n) S1 v1 v2 v3 v4 (v1 &&& (((1 : Int32) <<< (v4 &&& 31)) ^^^ (-1 : Int32)))
            )
          ) else (
            if (0 : Int32) = 0 then (
              fX6_missedMost_127 (fX6_missedMost_33 n) S1 v1 v3 v4 (v1 &&& (((1 : Int32) <<< (v4 &&& 31)) ^^^ (-1 : Int32))) (0 : Int32) v2
            ) else (
              fX6_missedMost_127 (fX6_missedMost_33 n) S1 v1 v3 v4 (v1 &&& (((1 : Int32) <<< (v4 &&& 31)) ^^^ (-1 : Int32))) (0 : Int32) v4
            )
          )
        )
      )
    )
def fX6_missedMost (S : teS) : Option (Int32 × teS) :=
  lt1 (teu S 369 0 (0 : Int32)) fun S1 =>
  bd1 (fX6_laySets 372 S1) fun S2 =>
  chk (tein (0 : Int32) 92) <|
  fX6_missedMost_33 2000 S2 (((1 : Int32) <<< ((S2 372 (0 : Int32).toNatClampNeg) &&& 31)) - (1 : Int32)) (-9999 : Int32) (0 : Int32) (0 : Int32)
def fX6_ahead_77 (x1 : Int32) (x2 : Int32) (x3 : Int32) (x4 : Int32) : Nat → teS → Int32 → Option (Int32 × teS)
  | 0, _, _ => none
  | n + 1, S1, v5 =>
    if x2 ≤ v5 then (
      bd1 (fX6_detail 373 x1 x4 S1) fun r_19 =>
      some (r_19, S1)
    ) else (
      bd1 (fX6_weekOn 373 x3 S1) fun S2 =>
      fX6_ahead_77 x1 x2 x3 x4 n S2 (v5 + (1 : Int32))
    )
def fX6_ahead_53 (x1 : Int32) (x2 : Int32) (x3 : Int32) (x4 : Int32) (S1 : teS) (y0 : Int32) : Option (Int32 × teS) :=
  bd2 (fX6_refused y0 S1) fun r_13 S2 =>
  if r_13 = 0 then (
    bd1 (fX6_copyPage 372 (0 : Int32) 373 (0 : Int32) S2) fun S3 =>
    fX6_ahead_77 x1 x2 x3 x4 2000 S3 (0 : Int32)
  ) else (
    some ((0 : Int32), S2)
  )
def fX6_ahead (x1 : Int32) (x2 : Int32) (x3 : Int32) (x4 : Int32) (S : teS) : Option (Int32 × teS) :=
  bd1 (fX6_isMember 372 x1 S) fun r_1 =>
  if r_1 = 0 then (
    fX6_ahead_53 x1 x2 x3 x4 S (1 : Int32)
  ) else (
    bd1 (fX6_in ((x2).toInt64) (0 : Int64) (60 : Int64) S) fun r_4 =>
    if r_4 = 0 then (
      fX6_ahead_53 x1 x2 x3 x4 S (2 : Int32)
    ) else (
      bd1 (fX6_isAbsent x3 S) fun r_7 =>
      if r_7 = 0 then (
        fX6_ahead_53 x1 x2 x3 x4 S (2 : Int32)
      ) else (
        bd1 (fX6_in ((x4).toInt64) (0 : Int64) (10 : Int64) S) fun r_10 =>
        if r_10 = 0 then (
          fX6_ahead_53 x1 x2 x3 x4 S (2 : Int32)
        ) else (
          fX6_ahead_53 x1 x2 x3 x4 S (0 : Int32)
        )
      )
    )
  )
def fX6_levelAfter_56 (x1 : Int32) (x2 : Int32) : Nat → teS → Int32 → Option (Int32 × teS)
  | 0, _, _ => none
  | n + 1, S1, v3 =>
    if (100 : Int32) < v3 then (
      some ((-9999 : Int32), S1)
    ) else (
      bd1 (fX6_at x1 S1) fun r_13 =>
      bd1 (fX6_at x1 S1) fun r_15 =>
      chk (tein (r_15 + (4 : Int32)) 92) <|
      chk (tein (r_13 + (S1 373 (r_15 + (4 : Int32)).toNatClampNeg)) 92) <|
      if (S1 373 (r_13 + (S1 373 (r_15 + (4 : Int32)).toNatClampNeg)).toNatClampNeg) < x2 then (
        bd2 (fX6_matchOn 373 S1) fun r_20 S2 =>
        bd1 (fX6_weekOn 373 (0 : Int32) S2) fun S3 =>
        fX6_levelAfter_56 x1 x2 n S3 (v3 + (1 : Int32))
      ) else (
        some (v3, S1)
      )
    )
def fX6_levelAfter_33 (x1 : Int32) (x2 : Int32) (S1 : teS) (y0 : Int32) : Option (Int32 × teS) :=
  bd2 (fX6_refused y0 S1) fun r_7 S2 =>
  if r_7 = 0 then (
    bd1 (fX6_copyPage 372 (0 : Int32) 373 (0 : Int32) S2) fun S3 =>
    fX6_levelAfter_56 x1 x2 2000 S3 (0 : Int32)
  ) else (
    some ((0 : Int32), S2)
  )
def fX6_levelAfter (x1 : Int32) (x2 : Int32) (S : teS) : Option (Int32 × teS) :=
  bd1 (fX6_isMember 372 x1 S) fun r_1 =>
  if r_1 = 0 then (
    fX6_levelAfter_33 x1 x2 S (1 : Int32)
  ) else (
    bd1 (fX6_in ((x2).toInt64) (0 : Int64) (9 : Int64) S) fun r_4 =>
    if r_4 = 0 then (
      fX6_levelAfter_33 x1 x2 S (2 : Int32)
    ) else (
      fX6_levelAfter_33 x1 x2 S (0 : Int32)
    )
  )
def fX6_partsAfter_66 (x1 : Int32) (x2 : Int32) : Nat → teS → Int32 → Option (Int32 × teS)
  | 0, _, _ => none
  | n + 1, S1, v3 =>
    if (100 : Int32) < v3 then (
      some ((-9999 : Int32), S1)
    ) else (
      bd1 (fX6_isFree 373 x1 S1) fun r_16 =>
      if r_16 = 0 then (
        bd1 (fX6_weekOn 373 x2 S1) fun S2 =>
        fX6_partsAfter_66 x1 x2 n S2 (v3 + (1 : Int32))
      ) else (
        some (v3, S1)
      )
    )
def fX6_partsAfter_43 (x1 : Int32) (x2 : Int32) (S1 : teS) (y0 : Int32) : Option (Int32 × teS) :=
  bd2 (fX6_refused y0 S1) fun r_10 S2 =>
  if r_10 = 0 then (
    bd1 (fX6_copyPage 372 (0 : Int32) 373 (0 : Int32) S2) fun S3 =>
    fX6_partsAfter_66 x1 x2 2000 S3 (0 : Int32)
  ) else (
    some ((0 : Int32), S2)
  )
def fX6_partsAfter (x1 : Int32) (x2 : Int32) (S : teS) : Option (Int32 × teS) :=
  bd1 (fX6_isMember 372 x1 S) fun r_1 =>
  if r_1 = 0 then (
    fX6_partsAfter_43 x1 x2 S (1 : Int32)
  ) else (
    bd1 (fX6_isAbsent x2 S) fun r_4 =>
    if r_4 = 0 then (
      fX6_partsAfter_43 x1 x2 S (2 : Int32)
    ) else (
      bd1 (fX6_isFree 372 x1 S) fun r_7 =>
      if r_7 = 0 then (
        fX6_partsAfter_43 x1 x2 S (0 : Int32)
      ) else (
        fX6_partsAfter_43 x1 x2 S (3 : Int32)
      )
    )
  )
def fX6_does_31 (x1 : Int32) (x2 : Int32) (x3 : Int32) (x4 : Int32) (S1 : teS) (v5 : Int32) (y0 : Int32) : Option (Int32 × teS) :=
  if x1 = (1 : Int32) then (
    if y0 = 0 then (
      some ((0 : Int32), S1)
    ) else (
      if x4 = 0 then (
        if x2 = x3 then (
          some ((0 : Int32), S1)
        ) else (
          bd1 (fX6_canPair 373 x2 x3 S1) fun r_11 =>
          if r_11 = 0 then (
            some ((0 : Int32), S1)
          ) else (
            bd1 (fX6_pairOn 373 x2 x3 S1) fun S2 =>
            some ((1 : Int32), S2)
          )
        )
      ) else (
        some ((0 : Int32), S1)
      )
    )
  ) else (
  if x1 = (2 : Int32) then (
    if v5 = 0 then (
      some ((0 : Int32), S1)
    ) else (
      if (((10 : Int32) * x3) + x4) = 0 then (
        bd1 (fX6_isFree 373 x2 S1) fun r_19 =>
        if r_19 = 0 then (
          bd1 (fX6_partOn 373 x2 S1) fun S3 =>
          some ((1 : Int32), S3)
        ) else (
          some ((0 : Int32), S1)
        )
      ) else (
        some ((0 : Int32), S1)
      )
    )
  ) else (
  if x1 = (3 : Int32) then (
    if x2 = 0 then (
      if (((10 : Int32) * x3) + x4) = 0 then (
        bd2 (fX6_matchOn 373 S1) fun r_27 S4 =>
        if r_27 < 0 then (
          some ((0 : Int32), S4)
        ) else (
          some ((1 : Int32), S4)
        )
      ) else (
        some ((0 : Int32), S1)
      )
    ) else (
      some ((0 : Int32), S1)
    )
  ) else (
  if x1 = (4 : Int32) then (
    if x2 = 0 then (
      bd1 (fX6_in (((((10 : Int32) * x3) + x4)).toInt64) (1 : Int64) (50 : Int64) S1) fun r_32 =>
      if r_32 = 0 then (
        some ((0 : Int32), S1)
      ) else (
        bd2 (fX6_settleOn 373 (((10 : Int32) * x3) + x4) S1) fun r_35 S5 =>
        if r_35 < 0 then (
          some ((0 : Int32), S5)
        ) else (
          some ((1 : Int32), S5)
        )
      )
    ) else (
      some ((0 : Int32), S1)
    )
  ) else (
  if x1 = (5 : Int32) then (
    bd1 (fX6_isAbsent (((100 : Int32) * x2) + (((10 : Int32) * x3) + x4)) S1) fun r_39 =>
    if r_39 = 0 then (
      some ((0 : Int32), S1)
    ) else (
      bd1 (fX6_weekOn 373 (((100 : Int32) * x2) + (((10 : Int32) * x3) + x4)) S1) fun S6 =>
      some ((1 : Int32), S6)
    )
  ) else (
  if x1 = (6 : Int32) then (
    if v5 = 0 then (
      some ((0 : Int32), S1)
    ) else (
      bd1 (fX6_isTongue x3 S1) fun r_46 =>
      if r_46 = 0 then (
        some ((0 : Int32), S1)
      ) else (
        bd2 (fX6_testOn 373 x2 x3 ((10 : Int32) * x4) S1) fun r_49 S7 =>
        if r_49 < 0 then (
          some ((0 : Int32), S7)
        ) else (
          some ((1 : Int32), S7)
        )
      )
    )
  ) else (
  if x1 = (7 : Int32) then (
    if y0 = 0 then (
      some ((0 : Int32), S1)
    ) else (
      if x4 = 0 then (
        bd1 (fX6_at x2 S1) fun r_55 =>
        chk (tein (r_55 + (8 : Int32)) 92) <|
        if (S1 373 (r_55 + (8 : Int32)).toNatClampNeg) = x3 then (
          some ((1 : Int32), S1)
        ) else (
          some ((0 : Int32), S1)
        )
      ) else (
        some ((0 : Int32), S1)
      )
    )
  ) else (
  if x1 = (8 : Int32) then (
    if x2 = 0 then (
      if x3 = 0 then (
        bd1 (fX6_over 373 (0 : Int32) S1) fun r_62 =>
        if r_62 = x4 then (
          some ((1 : Int32), S1)
        ) else (
          some ((0 : Int32), S1)
        )
      ) else (
        some ((0 : Int32), S1)
      )
    ) else (
      some ((0 : Int32), S1)
    )
  ) else (
  if x1 = (9 : Int32) then (
    if v5 = 0 then (
      some ((0 : Int32), S1)
    ) else (
      bd1 (fX6_isTongue x3 S1) fun r_67 =>
      if r_67 = 0 then (
        some ((0 : Int32), S1)
      ) else (
        bd1 (fX6_at x2 S1) fun r_70 =>
        chk (tein (r_70 + x3) 92) <|
        if (S1 373 (r_70 + x3).toNatClampNeg) = x4 then (
          some ((1 : Int32), S1)
        ) else (
          some ((0 : Int32), S1)
        )
      )
    )
  ) else (
    some ((0 : Int32), S1)
  )))))))))
def fX6_does (x1 : Int32) (x2 : Int32) (x3 : Int32) (x4 : Int32) (S : teS) : Option (Int32 × teS) :=
  bd1 (fX6_isMember 373 x2 S) fun r_1 =>
  if r_1 = 0 then (
    fX6_does_31 x1 x2 x3 x4 S r_1 (0 : Int32)
  ) else (
    bd1 (fX6_isMember 373 x3 S) fun r_4 =>
    if r_4 = 0 then (
      fX6_does_31 x1 x2 x3 x4 S r_1 (0 : Int32)
    ) else (
      fX6_does_31 x1 x2 x3 x4 S r_1 (1 : Int32)
    )
  )
def fX6_runScript_89 (x1 : Int32) (x2 : Int64) : Nat → teS → Int64 → Int64 → Int32 → Option (Int32 × teS)
  | 0, _, _, _, _ => none
  | n + 1, S1, v4, v6, v8 =>
    if x1 ≤ v8 then (
      some ((-9999 : Int32), S1)
    ) else (
      chk (decide (¬ (v4 / (10000 : Int64)) = 0)) <|
      chk (decide (¬ (v4 / (10000 : Int64)) = 0)) <|
      bd2 (fX6_does (((v6 / (v4 / (10000 : Int64)))).toInt32 / (1000 : Int32)) ((((v6 / (v4 / (10000 : Int64)))).toInt32 / (100 : Int32)) - (((v6 / (v4 / (10000 : Int64)))).toInt32 / (100 : Int32)) / (10 : Int32) * (10 : Int32)) ((((v6 / (v4 / (10000 : Int64)))).toInt32 / (10 : Int32)) - (((v6 / (v4 / (10000 : Int64)))).toInt32 / (10 : Int32)) / (10 : Int32) * (10 : Int32)) (((v6 / (v4 / (10000 : Int64)))).toInt32 - ((v6 / (v4 / (10000 : Int64)))).toInt32 / (10 : Int32) * (10 : Int32)) S1) fun r_17 S2 =>
      if r_17 = 0 then (
        some (v8, S2)
      ) else (
        fX6_runScript_89 x1 x2 n S2 (v4 / (10000 : Int64)) (v6 - v6 / (v4 / (10000 : Int64)) * (v4 / (10000 : Int64))) (v8 + (1 : Int32))
      )
    )
def fX6_runScript_62 (x1 : Int32) (x2 : Int64) (S1 : teS) (v4 : Int64) (y0 : Int32) : Option (Int32 × teS) :=
  bd2 (fX6_refused y0 S1) fun r_9 S2 =>
  if r_9 = 0 then (
    bd1 (fX6_copyPage 372 (0 : Int32) 373 (0 : Int32) S2) fun S3 =>
    fX6_runScript_89 x1 x2 2000 S3 v4 x2 (0 : Int32)
  ) else (
    some ((0 : Int32), S2)
  )
def fX6_runScript_32 (x1 : Int32) (x2 : Int64) (S1 : teS) (v4 : Int64) : Option (Int32 × teS) :=
  bd1 (fX6_in ((x1).toInt64) (1 : Int64) (4 : Int64) S1) fun r_3 =>
  if r_3 = 0 then (
    fX6_runScript_62 x1 x2 S1 v4 (1 : Int32)
  ) else (
    bd1 (fX6_in x2 (0 : Int64) (v4 - (1 : Int64)) S1) fun r_6 =>
    if r_6 = 0 then (
      fX6_runScript_62 x1 x2 S1 v4 (1 : Int32)
    ) else (
      fX6_runScript_62 x1 x2 S1 v4 (0 : Int32)
    )
  )
def fX6_runScript_6 (x1 : Int32) (x2 : Int64) : Nat → teS → Int64 → Int32 → Option (Int32 × teS)
  | 0, _, _, _ => none
  | n + 1, S1, v4, v6 =>
    if x1 ≤ v6 then (
      fX6_runScript_32 x1 x2 S1 v4
    ) else (
      if (4 : Int32) ≤ v6 then (
        fX6_runScript_32 x1 x2 S1 v4
      ) else (
        fX6_runScript_6 x1 x2 n S1 (v4 * (10000 : Int64)) (v6 + (1 : Int32))
      )
    )
def fX6_runScript (x1 : Int32) (x2 : Int64) (S : teS) : Option (Int32 × teS) :=
  fX6_runScript_6 x1 x2 2000 S (1 : Int64) (0 : Int32)
def fX6_simulate_89 (x1 : Int64) (x3 : Int32) (q45 : teS → Int64 → Int32 → Option (Int32 × teS)) (S1 : teS) (v4 : Int64) (v6 : Int32) (v7 : Int32) (y0 : Int32) : Option (Int32 × teS) :=
  if y0 < 0 then (
    bd1 (fX6_weekOn 373 (0 : Int32) S1) fun S2 =>
    q45 S2 v4 (v6 + (1 : Int32))
  ) else (
    bd1 (fX6_weekOn 373 ((v7 / (4 : Int32)) - (v7 / (4 : Int32)) / (512 : Int32) * (512 : Int32)) S1) fun S3 =>
    q45 S3 v4 (v6 + (1 : Int32))
  )
def fX6_simulate_45 (x1 : Int64) (x3 : Int32) : Nat → teS → Int64 → Int32 → Option (Int32 × teS)
  | 0, _, _, _ => none
  | n + 1, S1, v4, v6 =>
    if x3 ≤ v6 then (
      bd1 (fX6_creditsOf 373 S1) fun r_10 =>
      some (r_10, S1)
    ) else (
      if ((((((v4 * (6364136223846793005 : Int64)) + (1442695040888963407 : Int64))).toUInt64 >>> (((33 : Int32)).toInt64.toUInt64 &&& Int64.toUInt64 63)).toInt64).toInt32 - (((((v4 * (6364136223846793005 : Int64)) + (1442695040888963407 : Int64))).toUInt64 >>> (((33 : Int32)).toInt64.toUInt64 &&& Int64.toUInt64 63)).toInt64).toInt32 / (4 : Int32) * (4 : Int32)) = 0 then (
        bd2 (fX6_matchOn 373 S1) fun r_13 S2 =>
        fX6_simulate_89 x1 x3 (fX6_simulate_45 x1 x3 n) S2 ((v4 * (6364136223846793005 : Int64)) + (1442695040888963407 : Int64)) v6 (((((v4 * (6364136223846793005 : Int64)) + (1442695040888963407 : Int64))).toUInt64 >>> (((33 : Int32)).toInt64.toUInt64 &&& Int64.toUInt64 63)).toInt64).toInt32 r_13
      ) else (
        fX6_simulate_89 x1 x3 (fX6_simulate_45 x1 x3 n) S1 ((v4 * (6364136223846793005 : Int64)) + (1442695040888963407 : Int64)) v6 (((((v4 * (6364136223846793005 : Int64)) + (1442695040888963407 : Int64))).toUInt64 >>> (((33 : Int32)).toInt64.toUInt64 &&& Int64.toUInt64 63)).toInt64).toInt32 (0 : Int32)
      )
    )
def fX6_simulate_18 (x1 : Int64) (x3 : Int32) (S1 : teS) (y0 : Int32) : Option (Int32 × teS) :=
  bd2 (fX6_refused y0 S1) fun r_4 S2 =>
  if r_4 = 0 then (
    bd1 (fX6_copyPage 372 (0 : Int32) 373 (0 : Int32) S2) fun S3 =>
    fX6_simulate_45 x1 x3 2000 S3 x1 (0 : Int32)
  ) else (
    some ((0 : Int32), S2)
  )
def fX6_simulate (x1 : Int64) (x3 : Int32) (S : teS) : Option (Int32 × teS) :=
  bd1 (fX6_in ((x3).toInt64) (1 : Int64) (60 : Int64) S) fun r_1 =>
  if r_1 = 0 then (
    fX6_simulate_18 x1 x3 S (1 : Int32)
  ) else (
    fX6_simulate_18 x1 x3 S (0 : Int32)
  )
def fX6_save_16 (x1 : Int32) (S1 : teS) (y0 : Int32) : Option (Int32 × teS) :=
  bd2 (fX6_refused y0 S1) fun r_4 S2 =>
  if r_4 = 0 then (
    chk (tein x1 2) <|
    lt1 (teu S2 376 x1.toNatClampNeg (vp_nar .boolean (1 : Int32))) fun S3 =>
    bd1 (fX6_copyPage 372 (0 : Int32) 375 ((92 : Int32) * x1) S3) fun S4 =>
    chk (tein (1 : Int32) 92) <|
    some ((S4 372 (1 : Int32).toNatClampNeg), S4)
  ) else (
    some ((0 : Int32), S2)
  )
def fX6_save (x1 : Int32) (S : teS) : Option (Int32 × teS) :=
  bd1 (fX6_in ((x1).toInt64) (0 : Int64) (1 : Int64) S) fun r_1 =>
  if r_1 = 0 then (
    fX6_save_16 x1 S (1 : Int32)
  ) else (
    fX6_save_16 x1 S (0 : Int32)
  )
def fX6_restore_29 (x1 : Int32) (S1 : teS) (y0 : Int32) : Option (Int32 × teS) :=
  bd2 (fX6_refused y0 S1) fun r_6 S2 =>
  if r_6 = 0 then (
    bd1 (fX6_copyPage 375 ((92 : Int32) * x1) 372 (0 : Int32) S2) fun S3 =>
    lt1 (teu S3 369 3 (0 : Int32)) fun S4 =>
    chk (tein (1 : Int32) 92) <|
    some ((S4 372 (1 : Int32).toNatClampNeg), S4)
  ) else (
    some ((0 : Int32), S2)
  )
def fX6_restore (x1 : Int32) (S : teS) : Option (Int32 × teS) :=
  bd1 (fX6_in ((x1).toInt64) (0 : Int64) (1 : Int64) S) fun r_1 =>
  if r_1 = 0 then (
    fX6_restore_29 x1 S (1 : Int32)
  ) else (
    chk (tein x1 2) <|
    if (S 376 x1.toNatClampNeg) = 0 then (
      fX6_restore_29 x1 S (2 : Int32)
    ) else (
      fX6_restore_29 x1 S (0 : Int32)
    )
  )
def fL_append (x1 : Int32) (S : teS) (O : Int64) : Option (Int32 × (Int64 × teS)) :=
  bxw (fX5_append x1 S) (fun e_1 =>
    if e_1 = 1 then (
      some ((1 : Int32), (O, S))
    ) else (
    if e_1 = 2 then (
      some ((2 : Int32), (O, S))
    ) else (
      none))) fun r_3 S1 =>
  some ((0 : Int32), ((r_3).toInt64, S1))
def fL_load (S : teS) (O : Int64) : Option (Int32 × (Int64 × teS)) :=
  bxw (fX5_load S) (fun e_1 =>
    if e_1 = 2 then (
      some ((1 : Int32), (O, S))
    ) else (
      none)) fun r_3 S1 =>
  some ((0 : Int32), ((r_3).toInt64, S1))
def fL_about (x1 : Int32) (S : teS) (O : Int64) : Option (Int32 × (Int64 × teS)) :=
  bxw (fX5_about x1 S) (fun e_1 =>
    if e_1 = 1 then (
      some ((1 : Int32), (O, S))
    ) else (
      none)) fun r_3 S1 =>
  some ((0 : Int32), ((r_3).toInt64, S1))
def fL_member (x1 : Int32) (x2 : Int32) (S : teS) (O : Int64) : Option (Int32 × (Int64 × teS)) :=
  bxw (fX5_member x1 x2 S) (fun e_1 =>
    if e_1 = 3 then (
      some ((1 : Int32), (O, S))
    ) else (
    if e_1 = 1 then (
      some ((2 : Int32), (O, S))
    ) else (
      none))) fun r_3 S1 =>
  some ((0 : Int32), ((r_3).toInt64, S1))
def fL_both (x1 : Int32) (x2 : Int32) (x3 : Int32) (S : teS) (O : Int64) : Option (Int32 × (Int64 × teS)) :=
  bxw (fX5_both x1 x2 x3 S) (fun e_1 =>
    if e_1 = 3 then (
      some ((1 : Int32), (O, S))
    ) else (
    if e_1 = 1 then (
      some ((2 : Int32), (O, S))
    ) else (
      none))) fun r_3 S1 =>
  some ((0 : Int32), ((r_3).toInt64, S1))
def fL_join (x1 : Int32) (x2 : Int32) (x3 : Int32) (S : teS) (O : Int64) : Option (Int32 × (Int64 × teS)) :=
  bxw (fX5_join x1 x2 x3 S) (fun e_1 =>
    if e_1 = 1 then (
      some ((1 : Int32), (O, S))
    ) else (
    if e_1 = 2 then (
      some ((2 : Int32), (O, S))
    ) else (
      none))) fun r_3 S1 =>
  some ((0 : Int32), ((r_3).toInt64, S1))
def fL_leave (x1 : Int32) (S : teS) (O : Int64) : Option (Int32 × (Int64 × teS)) :=
  bxw (fX5_leave x1 S) (fun e_1 =>
    if e_1 = 3 then (
      some ((1 : Int32), (O, S))
    ) else (
      none)) fun r_3 S1 =>
  some ((0 : Int32), ((r_3).toInt64, S1))
def fL_want (x1 : Int32) (x2 : Int32) (S : teS) (O : Int64) : Option (Int32 × (Int64 × teS)) :=
  bxw (fX5_want x1 x2 S) (fun e_1 =>
    if e_1 = 3 then (
      some ((1 : Int32), (O, S))
    ) else (
    if e_1 = 1 then (
      some ((2 : Int32), (O, S))
    ) else (
      none))) fun r_3 S1 =>
  some ((0 : Int32), ((r_3).toInt64, S1))
def fL_test (x1 : Int32) (x2 : Int32) (x3 : Int32) (S : teS) (O : Int64) : Option (Int32 × (Int64 × teS)) :=
  bxw (fX5_test x1 x2 x3 S) (fun e_1 =>
    if e_1 = 3 then (
      some ((1 : Int32), (O, S))
    ) else (
    if e_1 = 1 then (
      some ((2 : Int32), (O, S))
    ) else (
      none))) fun r_3 S1 =>
  some ((0 : Int32), ((r_3).toInt64, S1))
def fL_pair (x1 : Int32) (x2 : Int32) (S : teS) (O : Int64) : Option (Int32 × (Int64 × teS)) :=
  bxw (fX5_pair x1 x2 S) (fun e_1 =>
    if e_1 = 3 then (
      some ((1 : Int32), (O, S))
    ) else (
    if e_1 = 1 then (
      some ((2 : Int32), (O, S))
    ) else (
    if e_1 = 2 then (
      some ((3 : Int32), (O, S))
    ) else (
      none)))) fun r_3 S1 =>
  some ((0 : Int32), ((r_3).toInt64, S1))
def fL_part (x1 : Int32) (S : teS) (O : Int64) : Option (Int32 × (Int64 × teS)) :=
  bxw (fX5_part x1 S) (fun e_1 =>
    if e_1 = 3 then (
      some ((1 : Int32), (O, S))
    ) else (
    if e_1 = 2 then (
      some ((2 : Int32), (O, S))
    ) else (
      none))) fun r_3 S1 =>
  some ((0 : Int32), ((r_3).toInt64, S1))
def fL_settle (x1 : Int32) (S : teS) (O : Int64) : Option (Int32 × (Int64 × teS)) :=
  bxw (fX5_settle x1 S) (fun e_1 =>
    if e_1 = 1 then (
      some ((1 : Int32), (O, S))
    ) else (
      none)) fun r_3 S1 =>
  some ((0 : Int32), ((r_3).toInt64, S1))
def fL_week (x1 : Int32) (S : teS) (O : Int64) : Option (Int32 × (Int64 × teS)) :=
  bxw (fX5_week x1 S) (fun e_1 =>
    if e_1 = 1 then (
      some ((1 : Int32), (O, S))
    ) else (
      none)) fun r_3 S1 =>
  some ((0 : Int32), ((r_3).toInt64, S1))
def fL_undo (S : teS) (O : Int64) : Option (Int32 × (Int64 × teS)) :=
  bxw (fX5_undo S) (fun e_1 =>
    if e_1 = 2 then (
      some ((1 : Int32), (O, S))
    ) else (
      none)) fun r_3 S1 =>
  some ((0 : Int32), ((r_3).toInt64, S1))
def fL_blocking (x1 : Int32) (x2 : Int32) (S : teS) (O : Int64) : Option (Int32 × (Int64 × teS)) :=
  bxw (fX5_blocking x1 x2 S) (fun e_1 =>
    if e_1 = 1 then (
      some ((1 : Int32), (O, S))
    ) else (
      none)) fun r_3 S1 =>
  some ((0 : Int32), ((r_3).toInt64, S1))
def fL_bestPartner (x1 : Int32) (x2 : Int32) (S : teS) (O : Int64) : Option (Int32 × (Int64 × teS)) :=
  bxw (fX5_bestPartner x1 x2 S) (fun e_1 =>
    if e_1 = 3 then (
      some ((1 : Int32), (O, S))
    ) else (
      none)) fun r_3 S1 =>
  some ((0 : Int32), ((r_3).toInt64, S1))
def fL_best (x1 : Int32) (S : teS) (O : Int64) : Option (Int32 × (Int64 × teS)) :=
  bxw (fX5_best x1 S) (fun e_1 =>
    if e_1 = 1 then (
      some ((1 : Int32), (O, S))
    ) else (
      none)) fun r_3 S1 =>
  some ((0 : Int32), ((r_3).toInt64, S1))
def fL_ahead (x1 : Int32) (x2 : Int32) (x3 : Int32) (x4 : Int32) (S : teS) (O : Int64) : Option (Int32 × (Int64 × teS)) :=
  bxw (fX5_ahead x1 x2 x3 x4 S) (fun e_1 =>
    if e_1 = 3 then (
      some ((1 : Int32), (O, S))
    ) else (
    if e_1 = 1 then (
      some ((2 : Int32), (O, S))
    ) else (
      none))) fun r_3 S1 =>
  some ((0 : Int32), ((r_3).toInt64, S1))
def fL_levelAfter (x1 : Int32) (x2 : Int32) (S : teS) (O : Int64) : Option (Int32 × (Int64 × teS)) :=
  bxw (fX5_levelAfter x1 x2 S) (fun e_1 =>
    if e_1 = 3 then (
      some ((1 : Int32), (O, S))
    ) else (
    if e_1 = 1 then (
      some ((2 : Int32), (O, S))
    ) else (
      none))) fun r_3 S1 =>
  some ((0 : Int32), ((r_3).toInt64, S1))
def fL_partsAfter (x1 : Int32) (x2 : Int32) (S : teS) (O : Int64) : Option (Int32 × (Int64 × teS)) :=
  bxw (fX5_partsAfter x1 x2 S) (fun e_1 =>
    if e_1 = 3 then (
      some ((1 : Int32), (O, S))
    ) else (
    if e_1 = 1 then (
      some ((2 : Int32), (O, S))
    ) else (
    if e_1 = 2 then (
      some ((3 : Int32), (O, S))
    ) else (
      none)))) fun r_3 S1 =>
  some ((0 : Int32), ((r_3).toInt64, S1))
def fL_runScript (x1 : Int32) (x2 : Int64) (S : teS) (O : Int64) : Option (Int32 × (Int64 × teS)) :=
  bxw (fX5_runScript x1 x2 S) (fun e_1 =>
    if e_1 = 1 then (
      some ((1 : Int32), (O, S))
    ) else (
      none)) fun r_3 S1 =>
  some ((0 : Int32), ((r_3).toInt64, S1))
def fL_simulate (x1 : Int64) (x3 : Int32) (S : teS) (O : Int64) : Option (Int32 × (Int64 × teS)) :=
  bxw (fX5_simulate x1 x3 S) (fun e_1 =>
    if e_1 = 1 then (
      some ((1 : Int32), (O, S))
    ) else (
      none)) fun r_3 S1 =>
  some ((0 : Int32), ((r_3).toInt64, S1))
def fL_save (x1 : Int32) (S : teS) (O : Int64) : Option (Int32 × (Int64 × teS)) :=
  bxw (fX5_save x1 S) (fun e_1 =>
    if e_1 = 3 then (
      some ((1 : Int32), (O, S))
    ) else (
      none)) fun r_3 S1 =>
  some ((0 : Int32), ((r_3).toInt64, S1))
def fL_restore (x1 : Int32) (S : teS) (O : Int64) : Option (Int32 × (Int64 × teS)) :=
  bxw (fX5_restore x1 S) (fun e_1 =>
    if e_1 = 3 then (
      some ((1 : Int32), (O, S))
    ) else (
    if e_1 = 2 then (
      some ((2 : Int32), (O, S))
    ) else (
      none))) fun r_3 S1 =>
  some ((0 : Int32), ((r_3).toInt64, S1))
def fL_law_1848 (xs : Nat → Int32) (L : Nat) (q23 : teS → Int64 → Int32 → Option Int32) (S1 : teS) (O1 : Int64) (v4 : Int32) : Option Int32 :=
  q23 S1 O1 (v4 + (5 : Int32))
def fL_law_1119 (xs : Nat → Int32) (L : Nat) (q23 : teS → Int64 → Int32 → Option Int32) (S1 : teS) (O1 : Int64) (v4 : Int32) (v5 : Int32) (y0 : Int32) (y1 : Int32) : Option Int32 :=
  bd2 (fX6_blocking y1 y0 S1) fun r_303 S2 =>
  bd1 (fX6_thrown S2) fun r_305 =>
  if r_305 = v5 then (
    if v5 = 0 then (
      if (lg_cmp O1 (r_303).toInt64) = 0 then (
        fL_law_1848 xs L q23 S2 O1 v4
      ) else (
        some (0 : Int32)
      )
    ) else (
      fL_law_1848 xs L q23 S2 O1 v4
    )
  ) else (
    some (0 : Int32)
  )
def fL_law_1092 (xs : Nat → Int32) (L : Nat) (q23 : teS → Int64 → Int32 → Option Int32) (S1 : teS) (O1 : Int64) (v4 : Int32) (y0 : Int32) (y1 : Int32) : Option Int32 :=
  bd3 (fL_blocking y1 y0 S1 O1) fun r_293 O2 S2 =>
  chk (tein (v4 + (1 : Int32)) L) <|
  chk (tein (v4 + (2 : Int32)) L) <|
  if (xs (v4 + (2 : Int32)).toNatClampNeg) = 0 then (
    fL_law_1119 xs L q23 S2 O2 v4 r_293 (0 : Int32) (xs (v4 + (1 : Int32)).toNatClampNeg)
  ) else (
    fL_law_1119 xs L q23 S2 O2 v4 r_293 (1 : Int32) (xs (v4 + (1 : Int32)).toNatClampNeg)
  )
def fL_law_1203 (xs : Nat → Int32) (L : Nat) (q23 : teS → Int64 → Int32 → Option Int32) (S1 : teS) (O1 : Int64) (v4 : Int32) (v5 : Int32) (y0 : Int32) (y1 : Int32) : Option Int32 :=
  bd2 (fX6_bestPartner y1 y0 S1) fun r_310 S2 =>
  bd1 (fX6_thrown S2) fun r_312 =>
  if r_312 = v5 then (
    if v5 = 0 then (
      if (lg_cmp O1 (r_310).toInt64) = 0 then (
        fL_law_1848 xs L q23 S2 O1 v4
      ) else (
        some (0 : Int32)
      )
    ) else (
      fL_law_1848 xs L q23 S2 O1 v4
    )
  ) else (
    some (0 : Int32)
  )
def fL_law_1176 (xs : Nat → Int32) (L : Nat) (q23 : teS → Int64 → Int32 → Option Int32) (S1 : teS) (O1 : Int64) (v4 : Int32) (y0 : Int32) (y1 : Int32) : Option Int32 :=
  bd3 (fL_bestPartner y1 y0 S1 O1) fun r_298 O2 S2 =>
  chk (tein (v4 + (1 : Int32)) L) <|
  chk (tein (v4 + (2 : Int32)) L) <|
  if (xs (v4 + (2 : Int32)).toNatClampNeg) = 0 then (
    fL_law_1203 xs L q23 S2 O2 v4 r_298 (0 : Int32) (xs (v4 + (1 : Int32)).toNatClampNeg)
  ) else (
    fL_law_1203 xs L q23 S2 O2 v4 r_298 (1 : Int32) (xs (v4 + (1 : Int32)).toNatClampNeg)
  )
def fL_law_23 (xs : Nat → Int32) (L : Nat) : Nat → teS → Int64 → Int32 → Option Int32
  | 0, _, _, _ => none
  | n + 1, S1, O1, v4 =>
    if ((Int32.ofNat L) - (5 : Int32)) < v4 then (
      some (1 : Int32)
    ) else (
      chk (tein v4 L) <|
      if ((xs v4.toNatClampNeg) &&& (31 : Int32)) = (0 : Int32) then (
        chk (tein (v4 + (1 : Int32)) L) <|
        bd3 (fL_append (xs (v4 + (1 : Int32)).toNatClampNeg) S1 O1) fun r_5 O2 S2 =>
        bd2 (fX6_append (xs (v4 + (1 : Int32)).toNatClampNeg) S2) fun r_7 S3 =>
        bd1 (fX6_thrown S3) fun r_9 =>
        if r_9 = r_5 then (
          if r_5 = 0 then (
            if (lg_cmp O2 (r_7).toInt64) = 0 then (
              fL_law_1848 xs L (fL_law_23 xs L n) S3 O2 v4
            ) else (
              some (0 : Int32)
            )
          ) else (
            fL_law_1848 xs L (fL_law_23 xs L n) S3 O2 v4
          )
        ) else (
          some (0 : Int32)
        )
      ) else (
      if ((xs v4.toNatClampNeg) &&& (31 : Int32)) = (1 : Int32) then (
        bd2 (fX5_clearText S1) fun r_15 S4 =>
        bd2 (fX6_clearText S4) fun r_17 S5 =>
        if r_15 = r_17 then (
          fL_law_1848 xs L (fL_law_23 xs L n) S5 O1 v4
        ) else (
          some (0 : Int32)
        )
      ) else (
      if ((xs v4.toNatClampNeg) &&& (31 : Int32)) = (2 : Int32) then (
        bd1 (fX5_errorPosition S1) fun r_21 =>
        bd2 (fX6_errorPosition S1) fun r_23 S6 =>
        if r_21 = r_23 then (
          fL_law_1848 xs L (fL_law_23 xs L n) S6 O1 v4
        ) else (
          some (0 : Int32)
        )
      ) else (
      if ((xs v4.toNatClampNeg) &&& (31 : Int32)) = (3 : Int32) then (
        bd3 (fL_load S1 O1) fun r_27 O7 S7 =>
        bd2 (fX6_load S7) fun r_29 S8 =>
        bd1 (fX6_thrown S8) fun r_31 =>
        if r_31 = r_27 then (
          if r_27 = 0 then (
            if (lg_cmp O7 (r_29).toInt64) = 0 then (
              fL_law_1848 xs L (fL_law_23 xs L n) S8 O7 v4
            ) else (
              some (0 : Int32)
            )
          ) else (
            fL_law_1848 xs L (fL_law_23 xs L n) S8 O7 v4
          )
        ) else (
          some (0 : Int32)
        )
      ) else (
      if ((xs v4.toNatClampNeg) &&& (31 : Int32)) = (4 : Int32) then (
        chk (tein (v4 + (1 : Int32)) L) <|
        bd3 (fL_about (xs (v4 + (1 : Int32)).toNatClampNeg) S1 O1) fun r_38 O9 S9 =>
        bd2 (fX6_about (xs (v4 + (1 : Int32)).toNatClampNeg) S9) fun r_40 S10 =>
        bd1 (fX6_thrown S10) fun r_42 =>
        if r_42 = r_38 then (
          if r_38 = 0 then (
            if (lg_cmp O9 (r_40).toInt64) = 0 then (
              fL_law_1848 xs L (fL_law_23 xs L n) S10 O9 v4
            ) else (
              some (0 : Int32)
            )
          ) else (
            fL_law_1848 xs L (fL_law_23 xs L n) S10 O9 v4
          )
        ) else (
          some (0 : Int32)
        )
      ) else (
      if ((xs v4.toNatClampNeg) &&& (31 : Int32)) = (5 : Int32) then (
        chk (tein (v4 + (1 : Int32)) L) <|
        chk (tein (v4 + (2 : Int32)) L) <|
        bd3 (fL_member (xs (v4 + (1 : Int32)).toNatClampNeg) (xs (v4 + (2 : Int32)).toNatClampNeg) S1 O1) fun r_50 O11 S11 =>
        bd2 (fX6_member (xs (v4 + (1 : Int32)).toNatClampNeg) (xs (v4 + (2 : Int32)).toNatClampNeg) S11) fun r_52 S12 =>
        bd1 (fX6_thrown S12) fun r_54 =>
        if r_54 = r_50 then (
          if r_50 = 0 then (
            if (lg_cmp O11 (r_52).toInt64) = 0 then (
              fL_law_1848 xs L (fL_law_23 xs L n) S12 O11 v4
            ) else (
              some (0 : Int32)
            )
          ) else (
            fL_law_1848 xs L (fL_law_23 xs L n) S12 O11 v4
          )
        ) else (
          some (0 : Int32)
        )
      ) else (
      if ((xs v4.toNatClampNeg) &&& (31 : Int32)) = (6 : Int32) then (
        chk (tein (v4 + (1 : Int32)) L) <|
        chk (tein (v4 + (2 : Int32)) L) <|
        chk (tein (v4 + (3 : Int32)) L) <|
        bd3 (fL_both (xs (v4 + (1 : Int32)).toNatClampNeg) (xs (v4 + (2 : Int32)).toNatClampNeg) (xs (v4 + (3 : Int32)).toNatClampNeg) S1 O1) fun r_63 O13 S13 =>
        bd2 (fX6_both (xs (v4 + (1 : Int32)).toNatClampNeg) (xs (v4 + (2 : Int32)).toNatClampNeg) (xs (v4 + (3 : Int32)).toNatClampNeg) S13) fun r_65 S14 =>
        bd1 (fX6_thrown S14) fun r_67 =>
        if r_67 = r_63 then (
          if r_63 = 0 then (
            if (lg_cmp O13 (r_65).toInt64) = 0 then (
              fL_law_1848 xs L (fL_law_23 xs L n) S14 O13 v4
            ) else (
              some (0 : Int32)
            )
          ) else (
            fL_law_1848 xs L (fL_law_23 xs L n) S14 O13 v4
          )
        ) else (
          some (0 : Int32)
        )
      ) else (
      if ((xs v4.toNatClampNeg) &&& (31 : Int32)) = (7 : Int32) then (
        chk (tein (v4 + (1 : Int32)) L) <|
        chk (tein (v4 + (2 : Int32)) L) <|
        chk (tein (v4 + (3 : Int32)) L) <|
        bd3 (fL_join (xs (v4 + (1 : Int32)).toNatClampNeg) (xs (v4 + (2 : Int32)).toNatClampNeg) (xs (v4 + (3 : Int32)).toNatClampNeg) S1 O1) fun r_76 O15 S15 =>
        bd2 (fX6_join (xs (v4 + (1 : Int32)).toNatClampNeg) (xs (v4 + (2 : Int32)).toNatClampNeg) (xs (v4 + (3 : Int32)).toNatClampNeg) S15) fun r_78 S16 =>
        bd1 (fX6_thrown S16) fun r_80 =>
        if r_80 = r_76 then (
          if r_76 = 0 then (
            if (lg_cmp O15 (r_78).toInt64) = 0 then (
              fL_law_1848 xs L (fL_law_23 xs L n) S16 O15 v4
            ) else (
              some (0 : Int32)
            )
          ) else (
            fL_law_1848 xs L (fL_law_23 xs L n) S16 O15 v4
          )
        ) else (
          some (0 : Int32)
        )
      ) else (
      if ((xs v4.toNatClampNeg) &&& (31 : Int32)) = (8 : Int32) then (
        chk (tein (v4 + (1 : Int32)) L) <|
        bd3 (fL_leave (xs (v4 + (1 : Int32)).toNatClampNeg) S1 O1) fun r_87 O17 S17 =>
        bd2 (fX6_leave (xs (v4 + (1 : Int32)).toNatClampNeg) S17) fun r_89 S18 =>
        bd1 (fX6_thrown S18) fun r_91 =>
        if r_91 = r_87 then (
          if r_87 = 0 then (
            if (lg_cmp O17 (r_89).toInt64) = 0 then (
              fL_law_1848 xs L (fL_law_23 xs L n) S18 O17 v4
            ) else (
              some (0 : Int32)
            )
          ) else (
            fL_law_1848 xs L (fL_law_23 xs L n) S18 O17 v4
          )
        ) else (
          some (0 : Int32)
        )
      ) else (
      if ((xs v4.toNatClampNeg) &&& (31 : Int32)) = (9 : Int32) then (
        chk (tein (v4 + (1 : Int32)) L) <|
        chk (tein (v4 + (2 : Int32)) L) <|
        bd3 (fL_want (xs (v4 + (1 : Int32)).toNatClampNeg) (xs (v4 + (2 : Int32)).toNatClampNeg) S1 O1) fun r_99 O19 S19 =>
        bd2 (fX6_want (xs (v4 + (1 : Int32)).toNatClampNeg) (xs (v4 + (2 : Int32)).toNatClampNeg) S19) fun r_101 S20 =>
        bd1 (fX6_thrown S20) fun r_103 =>
        if r_103 = r_99 then (
          if r_99 = 0 then (
            if (lg_cmp O19 (r_101).toInt64) = 0 then (
              fL_law_1848 xs L (fL_law_23 xs L n) S20 O19 v4
            ) else (
              some (0 : Int32)
            )
          ) else (
            fL_law_1848 xs L (fL_law_23 xs L n) S20 O19 v4
          )
        ) else (
          some (0 : Int32)
        )
      ) else (
      if ((xs v4.toNatClampNeg) &&& (31 : Int32)) = (10 : Int32) then (
        chk (tein (v4 + (1 : Int32)) L) <|
        chk (tein (v4 + (2 : Int32)) L) <|
        chk (tein (v4 + (3 : Int32)) L) <|
        bd3 (fL_test (xs (v4 + (1 : Int32)).toNatClampNeg) (xs (v4 + (2 : Int32)).toNatClampNeg) (xs (v4 + (3 : Int32)).toNatClampNeg) S1 O1) fun r_112 O21 S21 =>
        bd2 (fX6_test (xs (v4 + (1 : Int32)).toNatClampNeg) (xs (v4 + (2 : Int32)).toNatClampNeg) (xs (v4 + (3 : Int32)).toNatClampNeg) S21) fun r_114 S22 =>
        bd1 (fX6_thrown S22) fun r_116 =>
        if r_116 = r_112 then (
          if r_112 = 0 then (
            if (lg_cmp O21 (r_114).toInt64) = 0 then (
              fL_law_1848 xs L (fL_law_23 xs L n) S22 O21 v4
            ) else (
              some (0 : Int32)
            )
          ) else (
            fL_law_1848 xs L (fL_law_23 xs L n) S22 O21 v4
          )
        ) else (
          some (0 : Int32)
        )
      ) else (
      if ((xs v4.toNatClampNeg) &&& (31 : Int32)) = (11 : Int32) then (
        chk (tein (v4 + (1 : Int32)) L) <|
        chk (tein (v4 + (2 : Int32)) L) <|
        bd3 (fL_pair (xs (v4 + (1 : Int32)).toNatClampNeg) (xs (v4 + (2 : Int32)).toNatClampNeg) S1 O1) fun r_124 O23 S23 =>
        bd2 (fX6_pair (xs (v4 + (1 : Int32)).toNatClampNeg) (xs (v4 + (2 : Int32)).toNatClampNeg) S23) fun r_126 S24 =>
        bd1 (fX6_thrown S24) fun r_128 =>
        if r_128 = r_124 then (
          if r_124 = 0 then (
            if (lg_cmp O23 (r_126).toInt64) = 0 then (
              fL_law_1848 xs L (fL_law_23 xs L n) S24 O23 v4
            ) else (
              some (0 : Int32)
            )
          ) else (
            fL_law_1848 xs L (fL_law_23 xs L n) S24 O23 v4
          )
        ) else (
          some (0 : Int32)
        )
      ) else (
      if ((xs v4.toNatClampNeg) &&& (31 : Int32)) = (12 : Int32) then (
        chk (tein (v4 + (1 : Int32)) L) <|
        bd3 (fL_part (xs (v4 + (1 : Int32)).toNatClampNeg) S1 O1) fun r_135 O25 S25 =>
        bd2 (fX6_part (xs (v4 + (1 : Int32)).toNatClampNeg) S25) fun r_137 S26 =>
        bd1 (fX6_thrown S26) fun r_139 =>
        if r_139 = r_135 then (
          if r_135 = 0 then (
            if (lg_cmp O25 (r_137).toInt64) = 0 then (
              fL_law_1848 xs L (fL_law_23 xs L n) S26 O25 v4
            ) else (
              some (0 : Int32)
            )
          ) else (
            fL_law_1848 xs L (fL_law_23 xs L n) S26 O25 v4
          )
        ) else (
          some (0 : Int32)
        )
      ) else (
      if ((xs v4.toNatClampNeg) &&& (31 : Int32)) = (13 : Int32) then (
        bd2 (fX5_match S1) fun r_145 S27 =>
        bd2 (fX6_match S27) fun r_147 S28 =>
        if r_145 = r_147 then (
          fL_law_1848 xs L (fL_law_23 xs L n) S28 O1 v4
        ) else (
          some (0 : Int32)
        )
      ) else (
      if ((xs v4.toNatClampNeg) &&& (31 : Int32)) = (14 : Int32) then (
        chk (tein (v4 + (1 : Int32)) L) <|
        bd3 (fL_settle (xs (v4 + (1 : Int32)).toNatClampNeg) S1 O1) fun r_152 O29 S29 =>
        bd2 (fX6_settle (xs (v4 + (1 : Int32)).toNatClampNeg) S29) fun r_154 S30 =>
        bd1 (fX6_thrown S30) fun r_156 =>
        if r_156 = r_152 then (
          if r_152 = 0 then (
            if (lg_cmp O29 (r_154).toInt64) = 0 then (
              fL_law_1848 xs L (fL_law_23 xs L n) S30 O29 v4
            ) else (
              some (0 : Int32)
            )
          ) else (
            fL_law_1848 xs L (fL_law_23 xs L n) S30 O29 v4
          )
        ) else (
          some (0 : Int32)
        )
      ) else (
      if ((xs v4.toNatClampNeg) &&& (31 : Int32)) = (15 : Int32) then (
        chk (tein (v4 + (1 : Int32)) L) <|
        bd3 (fL_week (xs (v4 + (1 : Int32)).toNatClampNeg) S1 O1) fun r_163 O31 S31 =>
        bd2 (fX6_week (xs (v4 + (1 : Int32)).toNatClampNeg) S31) fun r_165 S32 =>
        bd1 (fX6_thrown S32) fun r_167 =>
        if r_167 = r_163 then (
          if r_163 = 0 then (
            if (lg_cmp O31 (r_165).toInt64) = 0 then (
              fL_law_1848 xs L (fL_law_23 xs L n) S32 O31 v4
            ) else (
              some (0 : Int32)
            )
          ) else (
            fL_law_1848 xs L (fL_law_23 xs L n) S32 O31 v4
          )
        ) else (
          some (0 : Int32)
        )
      ) else (
      if ((xs v4.toNatClampNeg) &&& (31 : Int32)) = (16 : Int32) then (
        bd3 (fL_undo S1 O1) fun r_173 O33 S33 =>
        bd2 (fX6_undo S33) fun r_175 S34 =>
        bd1 (fX6_thrown S34) fun r_177 =>
        if r_177 = r_173 then (
          if r_173 = 0 then (
            if (lg_cmp O33 (r_175).toInt64) = 0 then (
              fL_law_1848 xs L (fL_law_23 xs L n) S34 O33 v4
            ) else (
              some (0 : Int32)
            )
          ) else (
            fL_law_1848 xs L (fL_law_23 xs L n) S34 O33 v4
          )
        ) else (
          some (0 : Int32)
        )
      ) else (
      if ((xs v4.toNatClampNeg) &&& (31 : Int32)) = (17 : Int32) then (
        chk (tein (v4 + (1 : Int32)) L) <|
        chk (tein (v4 + (2 : Int32)) L) <|
        if (xs (v4 + (2 : Int32)).toNatClampNeg) = 0 then (
          fL_law_1092 xs L (fL_law_23 xs L n) S1 O1 v4 (0 : Int32) (xs (v4 + (1 : Int32)).toNatClampNeg)
        ) else (
          fL_law_1092 xs L (fL_law_23 xs L n) S1 O1 v4 (1 : Int32) (xs (v4 + (1 : Int32)).toNatClampNeg)
        )
      ) else (
      if ((xs v4.toNatClampNeg) &&& (31 : Int32)) = (18 : Int32) then (
        chk (tein (v4 + (1 : Int32)) L) <|
        chk (tein (v4 + (2 : Int32)) L) <|
        if (xs (v4 + (2 : Int32)).toNatClampNeg) = 0 then (
          fL_law_1176 xs L (fL_law_23 xs L n) S1 O1 v4 (0 : Int32) (xs (v4 + (1 : Int32)).toNatClampNeg)
        ) else (
          fL_law_1176 xs L (fL_law_23 xs L n) S1 O1 v4 (1 : Int32) (xs (v4 + (1 : Int32)).toNatClampNeg)
        )
      ) else (
      if ((xs v4.toNatClampNeg) &&& (31 : Int32)) = (19 : Int32) then (
        chk (tein (v4 + (1 : Int32)) L) <|
        bd3 (fL_best (xs (v4 + (1 : Int32)).toNatClampNeg) S1 O1) fun r_192 O35 S35 =>
        bd2 (fX6_best (xs (v4 + (1 : Int32)).toNatClampNeg) S35) fun r_194 S36 =>
        bd1 (fX6_thrown S36) fun r_196 =>
        if r_196 = r_192 then (
          if r_192 = 0 then (
            if (lg_cmp O35 (r_194).toInt64) = 0 then (
              fL_law_1848 xs L (fL_law_23 xs L n) S36 O35 v4
            ) else (
              some (0 : Int32)
            )
          ) else (
            fL_law_1848 xs L (fL_law_23 xs L n) S36 O35 v4
          )
        ) else (
          some (0 : Int32)
        )
      ) else (
      if ((xs v4.toNatClampNeg) &&& (31 : Int32)) = (20 : Int32) then (
        bd2 (fX5_missedMost S1) fun r_202 S37 =>
        bd2 (fX6_missedMost S37) fun r_204 S38 =>
        if r_202 = r_204 then (
          fL_law_1848 xs L (fL_law_23 xs L n) S38 O1 v4
        ) else (
          some (0 : Int32)
        )
      ) else (
      if ((xs v4.toNatClampNeg) &&& (31 : Int32)) = (21 : Int32) then (
        chk (tein (v4 + (1 : Int32)) L) <|
        chk (tein (v4 + (2 : Int32)) L) <|
        chk (tein (v4 + (3 : Int32)) L) <|
        chk (tein (v4 + (4 : Int32)) L) <|
        bd3 (fL_ahead (xs (v4 + (1 : Int32)).toNatClampNeg) (xs (v4 + (2 : Int32)).toNatClampNeg) (xs (v4 + (3 : Int32)).toNatClampNeg) (xs (v4 + (4 : Int32)).toNatClampNeg) S1 O1) fun r_212 O39 S39 =>
        bd2 (fX6_ahead (xs (v4 + (1 : Int32)).toNatClampNeg) (xs (v4 + (2 : Int32)).toNatClampNeg) (xs (v4 + (3 : Int32)).toNatClampNeg) (xs (v4 + (4 : Int32)).toNatClampNeg) S39) fun r_214 S40 =>
        bd1 (fX6_thrown S40) fun r_216 =>
        if r_216 = r_212 then (
          if r_212 = 0 then (
            if (lg_cmp O39 (r_214).toInt64) = 0 then (
              fL_law_1848 xs L (fL_law_23 xs L n) S40 O39 v4
            ) else (
              some (0 : Int32)
            )
          ) else (
            fL_law_1848 xs L (fL_law_23 xs L n) S40 O39 v4
          )
        ) else (
          some (0 : Int32)
        )
      ) else (
      if ((xs v4.toNatClampNeg) &&& (31 : Int32)) = (22 : Int32) then (
        chk (tein (v4 + (1 : Int32)) L) <|
        chk (tein (v4 + (2 : Int32)) L) <|
        bd3 (fL_levelAfter (xs (v4 + (1 : Int32)).toNatClampNeg) (xs (v4 + (2 : Int32)).toNatClampNeg) S1 O1) fun r_224 O41 S41 =>
        bd2 (fX6_levelAfter (xs (v4 + (1 : Int32)).toNatClampNeg) (xs (v4 + (2 : Int32)).toNatClampNeg) S41) fun r_226 S42 =>
        bd1 (fX6_thrown S42) fun r_228 =>
        if r_228 = r_224 then (
          if r_224 = 0 then (
            if (lg_cmp O41 (r_226).toInt64) = 0 then (
              fL_law_1848 xs L (fL_law_23 xs L n) S42 O41 v4
            ) else (
              some (0 : Int32)
            )
          ) else (
            fL_law_1848 xs L (fL_law_23 xs L n) S42 O41 v4
          )
        ) else (
          some (0 : Int32)
        )
      ) else (
      if ((xs v4.toNatClampNeg) &&& (31 : Int32)) = (23 : Int32) then (
        chk (tein (v4 + (1 : Int32)) L) <|
        chk (tein (v4 + (2 : Int32)) L) <|
        bd3 (fL_partsAfter (xs (v4 + (1 : Int32)).toNatClampNeg) (xs (v4 + (2 : Int32)).toNatClampNeg) S1 O1) fun r_236 O43 S43 =>
        bd2 (fX6_partsAfter (xs (v4 + (1 : Int32)).toNatClampNeg) (xs (v4 + (2 : Int32)).toNatClampNeg) S43) fun r_238 S44 =>
        bd1 (fX6_thrown S44) fun r_240 =>
        if r_240 = r_236 then (
          if r_236 = 0 then (
            if (lg_cmp O43 (r_238).toInt64) = 0 then (
              fL_law_1848 xs L (fL_law_23 xs L n) S44 O43 v4
            ) else (
              some (0 : Int32)
            )
          ) else (
            fL_law_1848 xs L (fL_law_23 xs L n) S44 O43 v4
          )
        ) else (
          some (0 : Int32)
        )
      ) else (
      if ((xs v4.toNatClampNeg) &&& (31 : Int32)) = (24 : Int32) then (
        chk (tein (v4 + (1 : Int32)) L) <|
        chk (tein (v4 + (2 : Int32)) L) <|
        chk (tein (v4 + (3 : Int32)) L) <|
        bd3 (fL_runScript (xs (v4 + (1 : Int32)).toNatClampNeg) ((((xs (v4 + (2 : Int32)).toNatClampNeg)).toInt64 <<< (((32 : Int32)).toInt64 &&& 63)) ||| (((xs (v4 + (3 : Int32)).toNatClampNeg)).toInt64 &&& (4294967295 : Int64))) S1 O1) fun r_249 O45 S45 =>
        bd2 (fX6_runScript (xs (v4 + (1 : Int32)).toNatClampNeg) ((((xs (v4 + (2 : Int32)).toNatClampNeg)).toInt64 <<< (((32 : Int32)).toInt64 &&& 63)) ||| (((xs (v4 + (3 : Int32)).toNatClampNeg)).toInt64 &&& (4294967295 : Int64))) S45) fun r_251 S46 =>
        bd1 (fX6_thrown S46) fun r_253 =>
        if r_253 = r_249 then (
          if r_249 = 0 then (
            if (lg_cmp O45 (r_251).toInt64) = 0 then (
              fL_law_1848 xs L (fL_law_23 xs L n) S46 O45 v4
            ) else (
              some (0 : Int32)
            )
          ) else (
            fL_law_1848 xs L (fL_law_23 xs L n) S46 O45 v4
          )
        ) else (
          some (0 : Int32)
        )
      ) else (
      if ((xs v4.toNatClampNeg) &&& (31 : Int32)) = (25 : Int32) then (
        chk (tein (v4 + (1 : Int32)) L) <|
        chk (tein (v4 + (2 : Int32)) L) <|
        chk (tein (v4 + (3 : Int32)) L) <|
        bd3 (fL_simulate ((((xs (v4 + (1 : Int32)).toNatClampNeg)).toInt64 <<< (((32 : Int32)).toInt64 &&& 63)) ||| (((xs (v4 + (2 : Int32)).toNatClampNeg)).toInt64 &&& (4294967295 : Int64))) (xs (v4 + (3 : Int32)).toNatClampNeg) S1 O1) fun r_262 O47 S47 =>
        bd2 (fX6_simulate ((((xs (v4 + (1 : Int32)).toNatClampNeg)).toInt64 <<< (((32 : Int32)).toInt64 &&& 63)) ||| (((xs (v4 + (2 : Int32)).toNatClampNeg)).toInt64 &&& (4294967295 : Int64))) (xs (v4 + (3 : Int32)).toNatClampNeg) S47) fun r_264 S48 =>
        bd1 (fX6_thrown S48) fun r_266 =>
        if r_266 = r_262 then (
          if r_262 = 0 then (
            if (lg_cmp O47 (r_264).toInt64) = 0 then (
              fL_law_1848 xs L (fL_law_23 xs L n) S48 O47 v4
            ) else (
              some (0 : Int32)
            )
          ) else (
            fL_law_1848 xs L (fL_law_23 xs L n) S48 O47 v4
          )
        ) else (
          some (0 : Int32)
        )
      ) else (
      if ((xs v4.toNatClampNeg) &&& (31 : Int32)) = (26 : Int32) then (
        chk (tein (v4 + (1 : Int32)) L) <|
        bd3 (fL_save (xs (v4 + (1 : Int32)).toNatClampNeg) S1 O1) fun r_273 O49 S49 =>
        bd2 (fX6_save (xs (v4 + (1 : Int32)).toNatClampNeg) S49) fun r_275 S50 =>
        bd1 (fX6_thrown S50) fun r_277 =>
        if r_277 = r_273 then (
          if r_273 = 0 then (
            if (lg_cmp O49 (r_275).toInt64) = 0 then (
              fL_law_1848 xs L (fL_law_23 xs L n) S50 O49 v4
            ) else (
              some (0 : Int32)
            )
          ) else (
            fL_law_1848 xs L (fL_law_23 xs L n) S50 O49 v4
          )
        ) else (
          some (0 : Int32)
        )
      ) else (
      if ((xs v4.toNatClampNeg) &&& (31 : Int32)) = (27 : Int32) then (
        chk (tein (v4 + (1 : Int32)) L) <|
        bd3 (fL_restore (xs (v4 + (1 : Int32)).toNatClampNeg) S1 O1) fun r_284 O51 S51 =>
        bd2 (fX6_restore (xs (v4 + (1 : Int32)).toNatClampNeg) S51) fun r_286 S52 =>
        bd1 (fX6_thrown S52) fun r_288 =>
        if r_288 = r_284 then (
          if r_284 = 0 then (
            if (lg_cmp O51 (r_286).toInt64) = 0 then (
              fL_law_1848 xs L (fL_law_23 xs L n) S52 O51 v4
            ) else (
              some (0 : Int32)
            )
          ) else (
            fL_law_1848 xs L (fL_law_23 xs L n) S52 O51 v4
          )
        ) else (
          some (0 : Int32)
        )
      ) else (
        fL_law_1848 xs L (fL_law_23 xs L n) S1 O1 v4
      ))))))))))))))))))))))))))))
    )
