theorem tq_plan {S : pv_S} (I : Inv S) (w r : Int32) : pv_goI Inv S mX6_plan mX7_plan [.int w, .int r] := by
  sorry
