/-! The calls that tell. -/
theorem EQ.e_pdM {M M1 : Mem} (h : EQ M M1) (w : Int) : ∀ k : Nat, pdM M1 w k = pdM M w k
  | 0 => rfl
  | k + 1 => by rw [pdM, pdM, EQ.e_pdM h w k, h.e_pdW]
theorem EQ.e_k8 {M M1 : Mem} (h : EQ M M1) : k8 M1 = k8 M := by
  have a1 : g1 M1 = g1 M := by funext i y; unfold g1; rw [h 122 (by omega), h 123 (by omega)]
  have a3 : g3 M1 = g3 M := by funext i y; unfold g3; rw [h 126 (by omega)]
  have a5 : g5 M1 = g5 M := by funext i y; unfold g5; rw [h.e_wrS, h 114 (by omega)]
  have a7 : g7 M1 = g7 M := by funext i y; unfold g7; rw [h 115 (by omega)]
  have a8 : g8 M1 = g8 M := by funext i y; unfold g8; rw [h.e_cntS]
  unfold k8 k7 k6 k5 k4 k3 k2 k1
  rw [a1, a3, a5, a7, a8, h.e_g6, h.e_spH, h.e_smH, h 114 (by omega)]
theorem oe_as {M M1 : Mem} {q k r1 : Int} (x : IVA M) (iq : i32 q) (ik : i32 k) (hc : (fun r M' => r = (if 0 ≤ q ∧ q < M 114 23 then (if 0 ≤ k ∧ k ≤ 4 then (if k = 0 ∨ k = M 124 (6 * q) ∨ (k = 1 ∧ M 124 (6 * q) = 2) then q else -1) else -102) else -101) ∧ M' = M) r1 M1) : EQ M M1 := by
  obtain ⟨-, f1⟩ := hc
  rw [f1]; exact EQ.rf M
theorem op_as {M M1 M2 : Mem} {q k r1 r2 : Int} (x : IVA M) (iq : i32 q) (ik : i32 k) (hc : (fun r M' => r = (if 0 ≤ q ∧ q < M 114 23 then (if 0 ≤ k ∧ k ≤ 4 then (if k = 0 ∨ k = M 124 (6 * q) ∨ (k = 1 ∧ M 124 (6 * q) = 2) then q else -1) else -102) else -101) ∧ M' = M) r1 M1) (hd : (fun r M' => r = (if 0 ≤ q ∧ q < M1 114 23 then (if 0 ≤ k ∧ k ≤ 4 then (if k = 0 ∨ k = M1 124 (6 * q) ∨ (k = 1 ∧ M1 124 (6 * q) = 2) then q else -1) else -102) else -101) ∧ M' = M1) r2 M2) : r1 = r2 ∧ IVA M2 := by
  obtain ⟨e1, f1⟩ := hc
  obtain ⟨e2, f2⟩ := hd
  subst f1
  subst f2
  exact ⟨by rw [e1, e2]; first | rfl | done, x⟩
theorem oe_about {M M1 : Mem} {q k r1 : Int} (x : IVA M) (iq : i32 q) (ik : i32 k) (hc : (fun r M' => r = (if 0 ≤ q ∧ q < M 114 23 then (if 0 ≤ k ∧ k ≤ 5 then M 124 (6 * q + k) else if 10 ≤ k ∧ k ≤ 21 then rgt M q (k - 10) else -102) else -101) ∧ M' = M) r1 M1) : EQ M M1 := by
  obtain ⟨-, f1⟩ := hc
  rw [f1]; exact EQ.rf M
theorem op_about {M M1 M2 : Mem} {q k r1 r2 : Int} (x : IVA M) (iq : i32 q) (ik : i32 k) (hc : (fun r M' => r = (if 0 ≤ q ∧ q < M 114 23 then (if 0 ≤ k ∧ k ≤ 5 then M 124 (6 * q + k) else if 10 ≤ k ∧ k ≤ 21 then rgt M q (k - 10) else -102) else -101) ∧ M' = M) r1 M1) (hd : (fun r M' => r = (if 0 ≤ q ∧ q < M1 114 23 then (if 0 ≤ k ∧ k ≤ 5 then M1 124 (6 * q + k) else if 10 ≤ k ∧ k ≤ 21 then rgt M1 q (k - 10) else -102) else -101) ∧ M' = M1) r2 M2) : r1 = r2 ∧ IVA M2 := by
  obtain ⟨e1, f1⟩ := hc
  obtain ⟨e2, f2⟩ := hd
  subst f1
  subst f2
  exact ⟨by rw [e1, e2]; first | rfl | done, x⟩
theorem oe_value {M M1 : Mem} {m q r1 : Int} (x : IVA M) (im : i32 m) (iq : i32 q) (hc : (fun r M' => r = (if (0 ≤ m ∧ m < M 114 15) ∧ (0 ≤ q ∧ q < M 114 23) then vlu M m q else -101) ∧ M' = M) r1 M1) : EQ M M1 := by
  obtain ⟨-, f1⟩ := hc
  rw [f1]; exact EQ.rf M
theorem op_value {M M1 M2 : Mem} {m q r1 r2 : Int} (x : IVA M) (im : i32 m) (iq : i32 q) (hc : (fun r M' => r = (if (0 ≤ m ∧ m < M 114 15) ∧ (0 ≤ q ∧ q < M 114 23) then vlu M m q else -101) ∧ M' = M) r1 M1) (hd : (fun r M' => r = (if (0 ≤ m ∧ m < M1 114 15) ∧ (0 ≤ q ∧ q < M1 114 23) then vlu M1 m q else -101) ∧ M' = M1) r2 M2) : r1 = r2 ∧ IVA M2 := by
  obtain ⟨e1, f1⟩ := hc
  obtain ⟨e2, f2⟩ := hd
  subst f1
  subst f2
  exact ⟨by rw [e1, e2]; first | rfl | done, x⟩
theorem oe_near {M M1 : Mem} {q w r1 : Int} (x : IVA M) (iq : i32 q) (iw : i32 w) (hc : (fun r M' => r = (if 0 ≤ q ∧ q < M 114 23 then (if 0 ≤ w ∧ w ≤ 9 then nrO M q w else -102) else -101) ∧ M' = M) r1 M1) : EQ M M1 := by
  obtain ⟨-, f1⟩ := hc
  rw [f1]; exact EQ.rf M
theorem op_near {M M1 M2 : Mem} {q w r1 r2 : Int} (x : IVA M) (iq : i32 q) (iw : i32 w) (hc : (fun r M' => r = (if 0 ≤ q ∧ q < M 114 23 then (if 0 ≤ w ∧ w ≤ 9 then nrO M q w else -102) else -101) ∧ M' = M) r1 M1) (hd : (fun r M' => r = (if 0 ≤ q ∧ q < M1 114 23 then (if 0 ≤ w ∧ w ≤ 9 then (if M1 124 (6 * q) = 3 then -1 else b2i (nrS M1 (M1 124 (6 * q)) (M1 124 (6 * q + 2)) w)) else -102) else -101) ∧ M' = M1) r2 M2) : r1 = r2 ∧ IVA M2 := by
  obtain ⟨e1, f1⟩ := hc
  obtain ⟨e2, f2⟩ := hd
  subst f1
  subst f2
  exact ⟨by rw [e1, e2]; first | rfl | done, x⟩
theorem oe_classes {M M1 : Mem} {m q z r1 : Int} (x : IVA M) (im : i32 m) (iq : i32 q) (iz : i32 z) (hc : (fun r M' => r = (if (0 ≤ m ∧ m < M 114 15) ∧ (0 ≤ q ∧ q < M 114 23) then (if 0 ≤ z ∧ z ≤ 1 then (if M 114 17 = 0 then -103 else if z = 0 then lowS M m q else highS M m q) else -102) else -101) ∧ M' = M) r1 M1) : EQ M M1 := by
  obtain ⟨-, f1⟩ := hc
  rw [f1]; exact EQ.rf M
theorem op_classes {M M1 M2 : Mem} {m q z r1 r2 : Int} (x : IVA M) (im : i32 m) (iq : i32 q) (iz : i32 z) (hc : (fun r M' => r = (if (0 ≤ m ∧ m < M 114 15) ∧ (0 ≤ q ∧ q < M 114 23) then (if 0 ≤ z ∧ z ≤ 1 then (if M 114 17 = 0 then -103 else if z = 0 then lowS M m q else highS M m q) else -102) else -101) ∧ M' = M) r1 M1) (hd : (fun r M' => r = (if (0 ≤ m ∧ m < M1 114 15) ∧ (0 ≤ q ∧ q < M1 114 23) then (if 0 ≤ z ∧ z ≤ 1 then (if M1 114 17 = 0 then -103 else if z = 0 then lowS M1 m q else highS M1 m q) else -102) else -101) ∧ M' = M1) r2 M2) : r1 = r2 ∧ IVA M2 := by
  obtain ⟨e1, f1⟩ := hc
  obtain ⟨e2, f2⟩ := hd
  subst f1
  subst f2
  exact ⟨by rw [e1, e2]; first | rfl | done, x⟩
theorem oe_back {M M1 : Mem} {m y z r1 : Int} (x : IVA M) (im : i32 m) (iy : i32 y) (iz : i32 z) (hc : (fun r M' => r = (if 0 ≤ m ∧ m < M 114 15 then (if (0 ≤ y ∧ y ≤ 400) ∧ (0 ≤ z ∧ z ≤ 1) then (if M 114 17 = 0 then -103 else if bkH M m y (M 114 23).toNat < bkL M m y (M 114 23).toNat then -1 else if z = 0 then bkL M m y (M 114 23).toNat else bkH M m y (M 114 23).toNat) else -102) else -101) ∧ M' = M) r1 M1) : EQ M M1 := by
  obtain ⟨-, f1⟩ := hc
  rw [f1]; exact EQ.rf M
theorem op_back {M M1 M2 : Mem} {m y z r1 r2 : Int} (x : IVA M) (im : i32 m) (iy : i32 y) (iz : i32 z) (hc : (fun r M' => r = (if 0 ≤ m ∧ m < M 114 15 then (if (0 ≤ y ∧ y ≤ 400) ∧ (0 ≤ z ∧ z ≤ 1) then (if M 114 17 = 0 then -103 else if bkH M m y (M 114 23).toNat < bkL M m y (M 114 23).toNat then -1 else if z = 0 then bkL M m y (M 114 23).toNat else bkH M m y (M 114 23).toNat) else -102) else -101) ∧ M' = M) r1 M1) (hd : (fun r M' => r = (if 0 ≤ m ∧ m < M1 114 15 then (if (0 ≤ y ∧ y ≤ 400) ∧ (0 ≤ z ∧ z ≤ 1) then (if M1 114 17 = 0 then -103 else if bkH M1 m y (M1 114 23).toNat < bkL M1 m y (M1 114 23).toNat then -1 else if z = 0 then bkL M1 m y (M1 114 23).toNat else bkH M1 m y (M1 114 23).toNat) else -102) else -101) ∧ M' = M1) r2 M2) : r1 = r2 ∧ IVA M2 := by
  obtain ⟨e1, f1⟩ := hc
  obtain ⟨e2, f2⟩ := hd
  subst f1
  subst f2
  exact ⟨by rw [e1, e2]; first | rfl | done, x⟩
theorem oe_count {M M1 : Mem} {k r1 : Int} (x : IVA M) (ik : i32 k) (hc : (fun r M' => r = cntS M k ∧ M' = M) r1 M1) : EQ M M1 := by
  obtain ⟨-, f1⟩ := hc
  rw [f1]; exact EQ.rf M
theorem op_count {M M1 M2 : Mem} {k r1 r2 : Int} (x : IVA M) (ik : i32 k) (hc : (fun r M' => r = cntS M k ∧ M' = M) r1 M1) (hd : (fun r M' => r = cntS M1 k ∧ M' = M1) r2 M2) : r1 = r2 ∧ IVA M2 := by
  obtain ⟨e1, f1⟩ := hc
  obtain ⟨e2, f2⟩ := hd
  subst f1
  subst f2
  exact ⟨by rw [e1, e2]; first | rfl | done, x⟩
theorem oe_dates {M M1 : Mem} {m q z r1 : Int} (x : IVA M) (im : i32 m) (iq : i32 q) (iz : i32 z) (hc : (fun r M' => r = (if (0 ≤ m ∧ m < M 114 15) ∧ (0 ≤ q ∧ q < M 114 23) then (if 0 ≤ z ∧ z ≤ 2 then (if M 114 17 = 0 then -103 else if z = 0 then dN M m q (nY M q) else if z = 1 then dF M m q (nY M q) else dL M m q (nY M q)) else -102) else -101) ∧ M' = M) r1 M1) : EQ M M1 := by
  obtain ⟨-, f1⟩ := hc
  rw [f1]; exact EQ.rf M
theorem op_dates {M M1 M2 : Mem} {m q z r1 r2 : Int} (x : IVA M) (im : i32 m) (iq : i32 q) (iz : i32 z) (hc : (fun r M' => r = (if (0 ≤ m ∧ m < M 114 15) ∧ (0 ≤ q ∧ q < M 114 23) then (if 0 ≤ z ∧ z ≤ 2 then (if M 114 17 = 0 then -103 else if z = 0 then dN M m q (nY M q) else if z = 1 then dF M m q (nY M q) else dL M m q (nY M q)) else -102) else -101) ∧ M' = M) r1 M1) (hd : (fun r M' => r = (if (0 ≤ m ∧ m < M1 114 15) ∧ (0 ≤ q ∧ q < M1 114 23) then (if 0 ≤ z ∧ z ≤ 2 then (if M1 114 17 = 0 then -103 else if z = 0 then dN M1 m q (nY M1 q) else if z = 1 then dF M1 m q (nY M1 q) else dL M1 m q (nY M1 q)) else -102) else -101) ∧ SM M1 M') r2 M2) : r1 = r2 ∧ IVA M2 := by
  obtain ⟨e1, f1⟩ := hc
  obtain ⟨e2, f2⟩ := hd
  subst f1
  exact ⟨by rw [e1, e2], f2.iva x⟩
theorem oe_wrong {M M1 : Mem} {m r1 : Int} (x : IVA M) (im : i32 m) (hc : (fun r M' => r = (if 0 ≤ m ∧ m < M 114 15 then (if M 114 17 = 0 then -103 else wrS M m (M 114 23).toNat) else -101) ∧ M' = M) r1 M1) : EQ M M1 := by
  obtain ⟨-, f1⟩ := hc
  rw [f1]; exact EQ.rf M
theorem op_wrong {M M1 M2 : Mem} {m r1 r2 : Int} (x : IVA M) (im : i32 m) (hc : (fun r M' => r = (if 0 ≤ m ∧ m < M 114 15 then (if M 114 17 = 0 then -103 else wrS M m (M 114 23).toNat) else -101) ∧ M' = M) r1 M1) (hd : (fun r M' => r = (if 0 ≤ m ∧ m < M1 114 15 then (if M1 114 17 = 0 then -103 else wrS M1 m (M1 114 23).toNat) else -101) ∧ SM M1 M') r2 M2) : r1 = r2 ∧ IVA M2 := by
  obtain ⟨e1, f1⟩ := hc
  obtain ⟨e2, f2⟩ := hd
  subst f1
  exact ⟨by rw [e1, e2], f2.iva x⟩
theorem oe_stat {M M1 : Mem} {m w r1 : Int} (x : IVA M) (im : i32 m) (iw : i32 w) (hc : (fun r M' => r = (if 0 ≤ m ∧ m < M 114 15 then (if 0 ≤ w ∧ w ≤ 9 then stV M m w (-1) else -1002) else -1001) ∧ XS M M') r1 M1) : EQ M M1 := by
  exact hc.2.eq
theorem op_stat {M M1 M2 : Mem} {m w r1 r2 : Int} (x : IVA M) (im : i32 m) (iw : i32 w) (hc : (fun r M' => r = (if 0 ≤ m ∧ m < M 114 15 then (if 0 ≤ w ∧ w ≤ 9 then stV M m w (-1) else -1002) else -1001) ∧ XS M M') r1 M1) (hd : (fun r M' => r = (if 0 ≤ m ∧ m < M1 114 15 then (if 0 ≤ w ∧ w ≤ 9 then stV M1 m w (-1) else -1002) else -1001) ∧ SM M1 M') r2 M2) : r1 = r2 ∧ IVA M2 := by
  obtain ⟨e1, f1⟩ := hc
  obtain ⟨e2, f2⟩ := hd
  have q := f1.eq
  rw [q 114 (by omega), q.e_stV] at e2
  exact ⟨by rw [e1, e2], f2.iva (f1.iva x)⟩
theorem oe_odds {M M1 : Mem} {m w z r1 : Int} (x : IVA M) (im : i32 m) (iw : i32 w) (iz : i32 z) (hc : (fun r M' => r = (if 0 ≤ m ∧ m < M 114 15 then (if (0 ≤ w ∧ w ≤ 9) ∧ (0 ≤ z ∧ z ≤ 1) then trmS (upV M m w (-1)) (lowV M m w (-1)) z else -102) else -101) ∧ XS M M') r1 M1) : EQ M M1 := by
  exact hc.2.eq
theorem op_odds {M M1 M2 : Mem} {m w z r1 r2 : Int} (x : IVA M) (im : i32 m) (iw : i32 w) (iz : i32 z) (hc : (fun r M' => r = (if 0 ≤ m ∧ m < M 114 15 then (if (0 ≤ w ∧ w ≤ 9) ∧ (0 ≤ z ∧ z ≤ 1) then trmS (upV M m w (-1)) (lowV M m w (-1)) z else -102) else -101) ∧ XS M M') r1 M1) (hd : (fun r M' => r = (if 0 ≤ m ∧ m < M1 114 15 then (if (0 ≤ w ∧ w ≤ 9) ∧ (0 ≤ z ∧ z ≤ 1) then trmS (upV M1 m w (-1)) (lowV M1 m w (-1)) z else -102) else -101) ∧ SM M1 M') r2 M2) : r1 = r2 ∧ IVA M2 := by
  obtain ⟨e1, f1⟩ := hc
  obtain ⟨e2, f2⟩ := hd
  have q := f1.eq
  rw [q 114 (by omega), q.e_upV, q.e_lowV] at e2
  exact ⟨by rw [e1, e2], f2.iva (f1.iva x)⟩
theorem oe_paid {M M1 : Mem} {w z r1 : Int} (x : IVA M) (iw : i32 w) (iz : i32 z) (hc : (fun r M' => r = (if (0 ≤ w ∧ w ≤ 9) ∧ (0 ≤ z ∧ z ≤ 1) then (if M 114 15 = 0 then -103 else if (pdM M w (M 114 15).toNat).2 < (pdM M w (M 114 15).toNat).1 * (M 114 15 * (w + 1)) then 1 else trmS ((pdM M w (M 114 15).toNat).1 * (M 114 15 * (w + 1))) (pdM M w (M 114 15).toNat).2 z) else -102) ∧ XS M M') r1 M1) : EQ M M1 := by
  exact hc.2.eq
theorem op_paid {M M1 M2 : Mem} {w z r1 r2 : Int} (x : IVA M) (iw : i32 w) (iz : i32 z) (hc : (fun r M' => r = (if (0 ≤ w ∧ w ≤ 9) ∧ (0 ≤ z ∧ z ≤ 1) then (if M 114 15 = 0 then -103 else if (pdM M w (M 114 15).toNat).2 < (pdM M w (M 114 15).toNat).1 * (M 114 15 * (w + 1)) then 1 else trmS ((pdM M w (M 114 15).toNat).1 * (M 114 15 * (w + 1))) (pdM M w (M 114 15).toNat).2 z) else -102) ∧ XS M M') r1 M1) (hd : (fun r M' => r = (if (0 ≤ w ∧ w ≤ 9) ∧ (0 ≤ z ∧ z ≤ 1) then (if M1 114 15 = 0 then -103 else if (pdM M1 w (M1 114 15).toNat).2 < (pdM M1 w (M1 114 15).toNat).1 * (M1 114 15 * (w + 1)) then 1 else trmS ((pdM M1 w (M1 114 15).toNat).1 * (M1 114 15 * (w + 1))) (pdM M1 w (M1 114 15).toNat).2 z) else -102) ∧ SM M1 M') r2 M2) : r1 = r2 ∧ IVA M2 := by
  obtain ⟨e1, f1⟩ := hc
  obtain ⟨e2, f2⟩ := hd
  have q := f1.eq
  rw [q 114 (by omega), q.e_pdM] at e2
  exact ⟨by rw [e1, e2], f2.iva (f1.iva x)⟩
theorem oe_digest {M M1 : Mem} { r1 : Int} (x : IVA M)  (hc : (fun r M' => r = k8 M ∧ XS M M') r1 M1) : EQ M M1 := by
  exact hc.2.eq
theorem op_digest {M M1 M2 : Mem} { r1 r2 : Int} (x : IVA M)  (hc : (fun r M' => r = k8 M ∧ XS M M') r1 M1) (hd : (fun r M' => HM M1 M' ∧ r = k8 M1) r2 M2) : r1 = r2 ∧ IVA M2 := by
  obtain ⟨e1, f1⟩ := hc
  obtain ⟨f2, e2⟩ := hd
  rw [f1.eq.e_k8] at e2
  exact ⟨by rw [e1, e2], f2.iva (f1.iva x)⟩
theorem XS.up {P Q : Mem} (h : XS P Q) (o k v : Int) : XS (mu P o k v) (mu Q o k v) := fun a b n => by
  show (if a = o ∧ b = k then v else Q a b) = (if a = o ∧ b = k then v else P a b)
  rw [h a b n]
theorem look_iva {M M1 M2 : Mem} (x : IVA M) (hd : M 114 39 ≠ 30) (h1 : XS (mu M 0 16 (M 0 16 + 1)) M1) (h2 : SM (mu M1 114 39 (M1 114 39 + 1)) M2) : IVA M2 := by
  have e39 : M1 114 39 = M 114 39 := by rw [h1 114 39 (by omega)]; exact congrFun (mu_o M _ _ (by decide)) 39
  rw [e39] at h2
  have d1 := x.dn
  have d2 := x.id
  unfold WDone at d1
  unfold ID at d2
  have n16 : mu (mu M 0 16 (M 0 16 + 1)) 114 39 (M 114 39 + 1) 0 16 = M 0 16 + 1 := by rw [mu_o _ _ _ (by decide), mu_same]
  have cg : ∀ o k : Int, ¬ ZD o k → mu (mu M 0 16 (M 0 16 + 1)) 114 39 (M 114 39 + 1) o k = M o k := fun o k n => by
    show (if o = 114 ∧ k = 39 then M 114 39 + 1 else if o = 0 ∧ k = 16 then M 0 16 + 1 else M o k) = _
    unfold ZD at n
    rw [if_neg (by omega), if_neg (by omega)]
  have y : IVA (mu (mu M 0 16 (M 0 16 + 1)) 114 39 (M 114 39 + 1)) := by
    refine ⟨x.1.cg (fun o k z => cg o k (by unfold ZA at z; unfold ZD; omega)), x.2.1.cg (fun o k z => cg o k (by unfold ZB at z; unfold ZD; omega)), x.2.2.1.cg (fun o k z => cg o k (by unfold ZC at z; unfold ZD; omega)), ⟨?_, ?_⟩, x.2.2.2.2.1.cg (fun o k z => cg o k (by unfold ZE at z; unfold ZD; omega)), IvF.cg (fun k => cg 118 k (by unfold ZD; omega)) x.2.2.2.2.2⟩
    · unfold WDone; rw [mu_same]; omega
    · unfold ID; rw [n16, mu_same]; omega
  exact h2.iva ((h1.up 114 39 _).iva y)
theorem oe_hangs {M M1 : Mem} {m w r1 : Int} (x : IVA M) (im : i32 m) (iw : i32 w) (hc : (fun r M' => r = (if 0 ≤ m ∧ m < M 114 15 then (if 0 ≤ w ∧ w ≤ 9 then (if M 114 39 = 30 then -103 else (hgS M m w (M 114 23).toNat).1) else -102) else -101) ∧ (if (0 ≤ m ∧ m < M 114 15) ∧ (0 ≤ w ∧ w ≤ 9) ∧ M 114 39 ≠ 30 then XS (mu M 0 16 (M 0 16 + 1)) M' else M' = M)) r1 M1) : EQ M M1 := by
  obtain ⟨-, f1⟩ := hc
  split at f1
  · exact (K6.of M _).eq.tr f1.eq
  · rw [f1]; exact EQ.rf M
theorem op_hangs {M M1 M2 : Mem} {m w r1 r2 : Int} (x : IVA M) (im : i32 m) (iw : i32 w) (hc : (fun r M' => r = (if 0 ≤ m ∧ m < M 114 15 then (if 0 ≤ w ∧ w ≤ 9 then (if M 114 39 = 30 then -103 else (hgS M m w (M 114 23).toNat).1) else -102) else -101) ∧ (if (0 ≤ m ∧ m < M 114 15) ∧ (0 ≤ w ∧ w ≤ 9) ∧ M 114 39 ≠ 30 then XS (mu M 0 16 (M 0 16 + 1)) M' else M' = M)) r1 M1) (hd : (fun r M' => r = (if 0 ≤ m ∧ m < M1 114 15 then (if 0 ≤ w ∧ w ≤ 9 then (if M1 114 39 = 30 then -103 else (hgS M1 m w (M1 114 23).toNat).1) else -102) else -101) ∧ (if (0 ≤ m ∧ m < M1 114 15) ∧ (0 ≤ w ∧ w ≤ 9) ∧ M1 114 39 ≠ 30 then SM (mu M1 114 39 (M1 114 39 + 1)) M' else M' = M1)) r2 M2) : r1 = r2 ∧ IVA M2 := by
  have q := oe_hangs x im iw hc
  obtain ⟨e1, f1⟩ := hc
  obtain ⟨e2, f2⟩ := hd
  rw [q 114 (by omega), q.e_hgS] at e2
  refine ⟨by rw [e1, e2], ?_⟩
  rw [q 114 (by omega)] at f2
  split at f1
  · rename_i c
    rw [if_pos c] at f2
    exact look_iva x c.2.2 f1 (by rw [q 114 (by omega)]; exact f2)
  · rename_i c
    rw [if_neg c] at f2
    rw [f2, f1]; exact x
theorem oe_next {M M1 : Mem} {m w r1 : Int} (x : IVA M) (im : i32 m) (iw : i32 w) (hc : (fun r M' => r = (if 0 ≤ m ∧ m < M 114 15 then (if 0 ≤ w ∧ w ≤ 9 then (if M 114 39 = 30 then -103 else (nvV M m w).1) else -102) else -101) ∧ (if (0 ≤ m ∧ m < M 114 15) ∧ (0 ≤ w ∧ w ≤ 9) ∧ M 114 39 ≠ 30 then XS (mu M 0 16 (M 0 16 + 1)) M' else M' = M)) r1 M1) : EQ M M1 := by
  obtain ⟨-, f1⟩ := hc
  split at f1
  · exact (K6.of M _).eq.tr f1.eq
  · rw [f1]; exact EQ.rf M
theorem op_next {M M1 M2 : Mem} {m w r1 r2 : Int} (x : IVA M) (im : i32 m) (iw : i32 w) (hc : (fun r M' => r = (if 0 ≤ m ∧ m < M 114 15 then (if 0 ≤ w ∧ w ≤ 9 then (if M 114 39 = 30 then -103 else (nvV M m w).1) else -102) else -101) ∧ (if (0 ≤ m ∧ m < M 114 15) ∧ (0 ≤ w ∧ w ≤ 9) ∧ M 114 39 ≠ 30 then XS (mu M 0 16 (M 0 16 + 1)) M' else M' = M)) r1 M1) (hd : (fun r M' => r = (if 0 ≤ m ∧ m < M1 114 15 then (if 0 ≤ w ∧ w ≤ 9 then (if M1 114 39 = 30 then -103 else (nvV M1 m w).1) else -102) else -101) ∧ (if (0 ≤ m ∧ m < M1 114 15) ∧ (0 ≤ w ∧ w ≤ 9) ∧ M1 114 39 ≠ 30 then SM (mu M1 114 39 (M1 114 39 + 1)) M' else M' = M1)) r2 M2) : r1 = r2 ∧ IVA M2 := by
  have q := oe_next x im iw hc
  obtain ⟨e1, f1⟩ := hc
  obtain ⟨e2, f2⟩ := hd
  rw [q 114 (by omega), q.e_nvV] at e2
  refine ⟨by rw [e1, e2], ?_⟩
  rw [q 114 (by omega)] at f2
  split at f1
  · rename_i c
    rw [if_pos c] at f2
    exact look_iva x c.2.2 f1 (by rw [q 114 (by omega)]; exact f2)
  · rename_i c
    rw [if_neg c] at f2
    rw [f2, f1]; exact x

