/-! what whole's numbers name beside: the class' programs that the law of p25 does not call; the reference of whole as plain definitions -/
def X1_isBusy (o_viewers : Int32) (o_facts : Nat → Int32) : Option (Int32) :=
  bn1 (X1_count o_viewers o_facts (0 : Int32)) fun (r1 : Int32) =>
  bn1 (X1_count o_viewers o_facts (1 : Int32)) fun (r3 : Int32) =>
  if (r1 + r3) ≤ 0 then
    some (0 : Int32)
  else
    some (1 : Int32)
def X6_emptyIn_L21 (o_now_box_height : Int32) (o_now_box_holes : Int32) (o_now_box_reach : Int32) (o_now_box_holeY : Nat → Int32) (o_now_box_price_size : Int32) (o_now_box_price_codes : Nat → Int32) (o_now_crowd_viewers : Int32) (o_now_crowd_lookLength : Int32) (o_now_crowd_time : Int32) (o_now_crowd_lookers : Nat → Int32) (o_now_crowd_facts : Nat → Int32) (o_view_counts : Nat → Int32) (o_view_kinds : Nat → Int32) (o_view_depths : Nat → Int32)  : Nat → Int32 → (Nat → Int32) → Int32 → Int32 → Int32 → (Nat → Int32) → (Nat → Int32) → (Nat → Int32) → Option (Int32 × (Nat → Int32) × Int32 × Int32 × Int32 × (Nat → Int32) × (Nat → Int32) × (Nat → Int32))
  | 0, _, _, _, _, _, _, _, _ => none
  | n + 1, l2, o_now_box_price_waiting, o_trial_crowd_viewers, o_trial_crowd_lookLength, o_trial_crowd_time, o_trial_crowd_lookers, o_trial_crowd_facts, o_view_prices =>
    if (100000 : Int32) ≤ l2 then
      some (l2, o_now_box_price_waiting, o_trial_crowd_viewers, o_trial_crowd_lookLength, o_trial_crowd_time, o_trial_crowd_lookers, o_trial_crowd_facts, o_view_prices)
    else
      bn1 (X1_isBusy o_trial_crowd_viewers o_trial_crowd_facts) fun (r2 : Int32) =>
      if r2 = 0 then
        some (l2, o_now_box_price_waiting, o_trial_crowd_viewers, o_trial_crowd_lookLength, o_trial_crowd_time, o_trial_crowd_lookers, o_trial_crowd_facts, o_view_prices)
      else
        bn5 (X1_tick o_trial_crowd_viewers o_trial_crowd_lookLength o_trial_crowd_time o_trial_crowd_lookers o_trial_crowd_facts o_now_box_height o_now_box_holes o_now_box_reach o_now_box_holeY o_now_box_price_size o_now_box_price_codes o_now_box_price_waiting o_view_counts o_view_kinds o_view_depths o_view_prices) fun (o5 : Int32) (o6 : Nat → Int32) (o7 : Nat → Int32) (o8 : Nat → Int32) (o9 : Nat → Int32) =>
        nm (l2 + (1 : Int32)) fun (v11 : Int32) =>
        X6_emptyIn_L21 o_now_box_height o_now_box_holes o_now_box_reach o_now_box_holeY o_now_box_price_size o_now_box_price_codes o_now_crowd_viewers o_now_crowd_lookLength o_now_crowd_time o_now_crowd_lookers o_now_crowd_facts o_view_counts o_view_kinds o_view_depths n v11 o8 o_trial_crowd_viewers o_trial_crowd_lookLength o5 o6 o7 o9
def X6_emptyIn (o_now_box_height : Int32) (o_now_box_holes : Int32) (o_now_box_reach : Int32) (o_now_box_holeY : Nat → Int32) (o_now_box_price_size : Int32) (o_now_box_price_codes : Nat → Int32) (o_now_box_price_waiting : Nat → Int32) (o_now_crowd_viewers : Int32) (o_now_crowd_lookLength : Int32) (o_now_crowd_time : Int32) (o_now_crowd_lookers : Nat → Int32) (o_now_crowd_facts : Nat → Int32) (o_trial_crowd_viewers : Int32) (o_trial_crowd_lookLength : Int32) (o_trial_crowd_time : Int32) (o_trial_crowd_lookers : Nat → Int32) (o_trial_crowd_facts : Nat → Int32) (o_view_counts : Nat → Int32) (o_view_kinds : Nat → Int32) (o_view_depths : Nat → Int32) (o_view_prices : Nat → Int32) : Option (Int32 × (Nat → Int32) × Int32 × Int32 × Int32 × (Nat → Int32) × (Nat → Int32) × (Nat → Int32)) :=
  bn5 (X1_copyFrom o_trial_crowd_viewers o_trial_crowd_lookLength o_trial_crowd_time o_trial_crowd_lookers o_trial_crowd_facts o_now_crowd_viewers o_now_crowd_lookLength o_now_crowd_time o_now_crowd_lookers o_now_crowd_facts) fun (o12 : Int32) (o13 : Int32) (o14 : Int32) (o15 : Nat → Int32) (o16 : Nat → Int32) =>
  X6_emptyIn_L21 o_now_box_height o_now_box_holes o_now_box_reach o_now_box_holeY o_now_box_price_size o_now_box_price_codes o_now_crowd_viewers o_now_crowd_lookLength o_now_crowd_time o_now_crowd_lookers o_now_crowd_facts o_view_counts o_view_kinds o_view_depths FU (0 : Int32) o_now_box_price_waiting o12 o13 o14 o15 o16 o_view_prices
def X6_meanPaid (o_now_crowd_viewers : Int32) (o_now_crowd_facts : Nat → Int32) : Option (UInt32) :=
  bn1 (X1_count o_now_crowd_viewers o_now_crowd_facts (2 : Int32)) fun (r1 : Int32) =>
  if r1 = 0 then
    some FP.fconst0
  else
    bn1 (X1_allPaid o_now_crowd_viewers o_now_crowd_facts) fun (r4 : Int32) =>
    ck ((FP.fdiv (FP.i2f r4) (FP.i2f r1)) &&& 0x7fffffff ≤ 0x7f800000) <|
    some (FP.fdiv (FP.i2f r4) (FP.i2f r1))
