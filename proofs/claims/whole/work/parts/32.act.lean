/-! PURE PART: act. -/
/-- a body is noted, and runs -/
def pfin (B : zM → Int32 → Nat → Int32 → Int32 → Int32 → Option (Int32 × zM)) (M : zM) (r1 : Nat) (b ab x d : Int32) : Option (Int32 × zM) :=
  if d ≤ (40 : Int32) then zjn (fun (M5 : zM)  => znm (zset M5 25 0 1 ((M5.1 25 0 1) + (1 : Int32))) fun M7 => zbnd (B M7 b r1 ab x (d + (1 : Int32))) fun x9 M8 => some (x9, M8)) (fun j6 => if (20 : Int32) ≤ (M.1 25 0 1) then (j6 M) else (zchk (zin (M.1 25 0 1) 20) (znm (zset M 26 0 (M.1 25 0 1).toNatClampNeg b) fun M11 => j6 M11))) else some ((0 : Int32), M)
theorem pf_0_0 (n : Nat) (M : zM) (r : Nat) (x d : Int32) : (qA_rec (n + 1)).1 M r (nI 0) (nI 0) x d = pfin (qA_rec n).2 M r (nI 10) (-nI 1) x d := rfl
theorem pf_0_1 (n : Nat) (M : zM) (r : Nat) (x d : Int32) : (qA_rec (n + 1)).1 M r (nI 1) (nI 0) x d = pfin (qA_rec n).2 M r (nI 10) (-nI 1) x d := rfl
theorem pf_0_2 (n : Nat) (M : zM) (r : Nat) (x d : Int32) : (qA_rec (n + 1)).1 M r (nI 2) (nI 0) x d = pfin (qA_rec n).2 M r (nI 30) (nI 0) x d := rfl
theorem pf_0_3 (n : Nat) (M : zM) (r : Nat) (x d : Int32) : (qA_rec (n + 1)).1 M r (nI 3) (nI 0) x d = pfin (qA_rec n).2 M r (nI 10) (-nI 1) x d := rfl
theorem pf_0_4 (n : Nat) (M : zM) (r : Nat) (x d : Int32) : (qA_rec (n + 1)).1 M r (nI 4) (nI 0) x d = pfin (qA_rec n).2 M r (nI 50) (nI 1) x d := rfl
theorem pf_0_5 (n : Nat) (M : zM) (r : Nat) (x d : Int32) : (qA_rec (n + 1)).1 M r (nI 5) (nI 0) x d = pfin (qA_rec n).2 M r (nI 30) (nI 0) x d := rfl
theorem pf_0_6 (n : Nat) (M : zM) (r : Nat) (x d : Int32) : (qA_rec (n + 1)).1 M r (nI 6) (nI 0) x d = pfin (qA_rec n).2 M r (nI 71) (nI 3) x d := rfl
theorem pf_1_0 (n : Nat) (M : zM) (r : Nat) (x d : Int32) : (qA_rec (n + 1)).1 M r (nI 0) (nI 1) x d = pfin (qA_rec n).2 M r (nI 11) (-nI 1) x d := rfl
theorem pf_1_1 (n : Nat) (M : zM) (r : Nat) (x d : Int32) : (qA_rec (n + 1)).1 M r (nI 1) (nI 1) x d = pfin (qA_rec n).2 M r (nI 20) (nI 0) x d := rfl
theorem pf_1_2 (n : Nat) (M : zM) (r : Nat) (x d : Int32) : (qA_rec (n + 1)).1 M r (nI 2) (nI 1) x d = pfin (qA_rec n).2 M r (nI 11) (-nI 1) x d := rfl
theorem pf_1_3 (n : Nat) (M : zM) (r : Nat) (x d : Int32) : (qA_rec (n + 1)).1 M r (nI 3) (nI 1) x d = pfin (qA_rec n).2 M r (nI 11) (-nI 1) x d := rfl
theorem pf_1_4 (n : Nat) (M : zM) (r : Nat) (x d : Int32) : (qA_rec (n + 1)).1 M r (nI 4) (nI 1) x d = pfin (qA_rec n).2 M r (nI 51) (nI 1) x d := rfl
theorem pf_1_5 (n : Nat) (M : zM) (r : Nat) (x d : Int32) : (qA_rec (n + 1)).1 M r (nI 5) (nI 1) x d = pfin (qA_rec n).2 M r (nI 11) (-nI 1) x d := rfl
theorem pf_1_6 (n : Nat) (M : zM) (r : Nat) (x d : Int32) : (qA_rec (n + 1)).1 M r (nI 6) (nI 1) x d = pfin (qA_rec n).2 M r (nI 70) (nI 3) x d := rfl
theorem pf_2_0 (n : Nat) (M : zM) (r : Nat) (x d : Int32) : (qA_rec (n + 1)).1 M r (nI 0) (nI 2) x d = pfin (qA_rec n).2 M r (nI 12) (-nI 1) x d := rfl
theorem pf_2_1 (n : Nat) (M : zM) (r : Nat) (x d : Int32) : (qA_rec (n + 1)).1 M r (nI 1) (nI 2) x d = pfin (qA_rec n).2 M r (nI 12) (-nI 1) x d := rfl
theorem pf_2_2 (n : Nat) (M : zM) (r : Nat) (x d : Int32) : (qA_rec (n + 1)).1 M r (nI 2) (nI 2) x d = pfin (qA_rec n).2 M r (nI 12) (-nI 1) x d := rfl
theorem pf_2_3 (n : Nat) (M : zM) (r : Nat) (x d : Int32) : (qA_rec (n + 1)).1 M r (nI 3) (nI 2) x d = pfin (qA_rec n).2 M r (nI 40) (nI 0) x d := rfl
theorem pf_2_4 (n : Nat) (M : zM) (r : Nat) (x d : Int32) : (qA_rec (n + 1)).1 M r (nI 4) (nI 2) x d = pfin (qA_rec n).2 M r (nI 12) (-nI 1) x d := rfl
theorem pf_2_5 (n : Nat) (M : zM) (r : Nat) (x d : Int32) : (qA_rec (n + 1)).1 M r (nI 5) (nI 2) x d = pfin (qA_rec n).2 M r (nI 60) (nI 2) x d := rfl
theorem pf_2_6 (n : Nat) (M : zM) (r : Nat) (x d : Int32) : (qA_rec (n + 1)).1 M r (nI 6) (nI 2) x d = pfin (qA_rec n).2 M r (nI 40) (nI 0) x d := rfl
theorem bd_10 (n : Nat) (M : zM) (r : Nat) (ab x d : Int32) : (qA_rec (n + 1)).2 M (nI 10) r ab x d = some (x + M.1 2 r 0, M) := rfl
theorem bd_11 (n : Nat) (M : zM) (r : Nat) (ab x d : Int32) : (qA_rec (n + 1)).2 M (nI 11) r ab x d = zbnd ((qA_rec n).1 M r (M.1 2 r 1) (nI 0) x d) fun x4 M3 => some ((x4 - (M3.1 2 r 2)), M3) := rfl
theorem bd_12 (n : Nat) (M : zM) (r : Nat) (ab x d : Int32) : (qA_rec (n + 1)).2 M (nI 12) r ab x d = zbnd ((qA_rec n).1 M r (M.1 2 r 1) (nI 1) x d) fun x8 M7 => some (x8 * nI 2, M7) := rfl
theorem bd_20 (n : Nat) (M : zM) (r : Nat) (ab x d : Int32) : (qA_rec (n + 1)).2 M (nI 20) r ab x d = zbnd ((qA_rec n).1 M r ab (nI 1) x d) fun x12 M11 => some (x12 ^^^ nI 6, M11) := rfl
theorem bd_30 (n : Nat) (M : zM) (r : Nat) (ab x d : Int32) : (qA_rec (n + 1)).2 M (nI 30) r ab x d = zbnd ((qA_rec n).1 M r ab (nI 0) (x * nI 3) d) fun x16 M15 => some (x16, M15) := rfl
theorem bd_40 (n : Nat) (M : zM) (r : Nat) (ab x d : Int32) : (qA_rec (n + 1)).2 M (nI 40) r ab x d = zbnd ((qA_rec n).1 M r ab (nI 2) x d) fun x20 M19 => zbnd ((qA_rec n).1 M19 r (M19.1 2 r 1) (nI 1) (nI 1) d) fun x23 M22 => some (x20 + x23, M22) := rfl
theorem bd_50 (n : Nat) (M : zM) (r : Nat) (ab x d : Int32) : (qA_rec (n + 1)).2 M (nI 50) r ab x d = zbnd ((qA_rec n).1 M r ab (nI 0) x d) fun x27 M26 => some (-x27, M26) := rfl
theorem bd_51 (n : Nat) (M : zM) (r : Nat) (ab x d : Int32) : (qA_rec (n + 1)).2 M (nI 51) r ab x d = zbnd ((qA_rec n).1 M r ab (nI 1) (x + nI 1) d) fun x31 M30 => some (x31, M30) := rfl
theorem bd_60 (n : Nat) (M : zM) (r : Nat) (ab x d : Int32) : (qA_rec (n + 1)).2 M (nI 60) r ab x d = zbnd ((qA_rec n).1 M r ab (nI 2) (x - M.1 2 r 0) d) fun x35 M34 => some (x35, M34) := rfl
theorem bd_70 (n : Nat) (M : zM) (r : Nat) (ab x d : Int32) : (qA_rec (n + 1)).2 M (nI 70) r ab x d = zbnd ((qA_rec n).1 M r ab (nI 1) x d) fun x39 M38 => zbnd ((qA_rec n).1 M38 r ab (nI 0) (nI 2) d) fun x42 M41 => some (x39 + x42, M41) := rfl
theorem bd_71 (n : Nat) (M : zM) (r : Nat) (ab x d : Int32) : (qA_rec (n + 1)).2 M (nI 71) r ab x d = zbnd ((qA_rec n).1 M r ab (nI 0) x d) fun x46 M45 => some (x46 ^^^ M45.1 2 r 2, M45) := rfl
