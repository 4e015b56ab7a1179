/-! THE LAW'S START: all cells, told as one memory -/
def m00 : jM := fun j z => if j < 19 ∨ j = 52 then -2 else if j = 48 ∧ z = 1 then -2 else 0
def adr61 (h mq tal r0 r1 r2 r3 r4 p0 p1 p2 w0 w1 d0 d1 s0 s1 h0 h1 mh ma mb mc me mf mg ml lq dq b : Nat) (pt pu t u : Nat → Nat) : List Nat := [u 0, u 1, u 2, u 3, u 4, u 5, u 6, u 7, pu 0, pu 1, pu 2, pu 3, pu 4, pu 5, pu 6, pu 7, d1, s1, h1, t 0, t 1, t 2, t 3, t 4, t 5, t 6, t 7, pt 0, pt 1, pt 2, pt 3, pt 4, pt 5, pt 6, pt 7, d0, s0, h0, h, mq, r0, r1, r2, r3, r4, p0, p1, p2, w0, w1, tal, mh, ma, mb, mc, me, mf, mg, ml, lq, dq, b]
def pos61 : List Nat := [33, 35, 37, 39, 41, 43, 45, 47, 6, 8, 10, 12, 14, 16, 18, 20, 27, 29, 31, 32, 34, 36, 38, 40, 42, 44, 46, 5, 7, 9, 11, 13, 15, 17, 19, 26, 28, 30, 48, 49, 0, 1, 2, 3, 4, 21, 22, 23, 24, 25, 50, 51, 52, 53, 54, 55, 56, 57, 58, 59, 60]
theorem pos61_inj : ∀ i : Nat, i < 61 → ∀ j : Nat, j < 61 → pos61.getD i 0 = pos61.getD j 0 → i = j := by decide +kernel
def X61 (Y : kX) (h mq tal r0 r1 r2 r3 r4 p0 p1 p2 w0 w1 d0 d1 s0 s1 h0 h1 mh ma mb mc me mf mg ml lq dq b : Nat) (pt pu t u : Nat → Nat) : jX := (kl Y, kD Y, (fun i => if i = 0 then kc Y .int else if i = 1 then kc Y .boolean else if i = 2 then kc Y (.object RX2) else if i = 3 then kc Y .long else kc Y .double), (fun j => (adr61 h mq tal r0 r1 r2 r3 r4 p0 p1 p2 w0 w1 d0 d1 s0 s1 h0 h1 mh ma mb mc me mf mg ml lq dq b pt pu t u).getD j 0), 0)
abbrev W61 (Y : kX) (h mq tal r0 r1 r2 r3 r4 p0 p1 p2 w0 w1 d0 d1 s0 s1 h0 h1 mh ma mb mc me mf mg ml lq dq : Nat) (pt pu t u : Nat → Nat) : va_W := (kwC Y h mq tal r0 r1 r2 r3 r4 p0 p1 p2 w0 w1 d0 d1 s0 s1 h0 h1 pt pu t u ++ (modC Y mh ma mb mc me mf mg ml ++ [(lq, .inl (kc Y .long, (1, .inr (.inl (fun _ => Int64.ofInt 0))))), (dq, .inl (kc Y .double, (1, .inr (.inr (.inr (.inl (fun _ => UInt64.ofNat 0)))))))]))
/-- the cells in the order of their making -/
abbrev Z61 (Y : kX) (h mq tal r0 r1 r2 r3 r4 p0 p1 p2 w0 w1 d0 d1 s0 s1 h0 h1 mh ma mb mc me mf mg ml lq dq : Nat) (pt pu t u : Nat → Nat) : va_W := [(r0, .inr (1, [.ref r1, .ref r2, .ref r3, .ref r4, .int (Int32.ofInt 0)])), (r1, .inl (kc Y .int, 60, .inl (fun _ => Int32.ofInt 0))), (r2, .inl (kc Y .int, 60, .inl (fun _ => Int32.ofInt 0))), (r3, .inl (kc Y .boolean, 257, .inl (fun _ => Int32.ofInt 0))), (r4, .inl (kc Y .int, 32, .inl (fun _ => Int32.ofInt 0))), (pt 0, .inr (2, [.ref (pu 0), .int (Int32.ofInt 0)])), (pu 0, .inl (kc Y .int, 257, .inl (fun _ => Int32.ofInt (-2)))), (pt 1, .inr (2, [.ref (pu 1), .int (Int32.ofInt 0)])), (pu 1, .inl (kc Y .int, 257, .inl (fun _ => Int32.ofInt (-2)))), (pt 2, .inr (2, [.ref (pu 2), .int (Int32.ofInt 0)])), (pu 2, .inl (kc Y .int, 257, .inl (fun _ => Int32.ofInt (-2)))), (pt 3, .inr (2, [.ref (pu 3), .int (Int32.ofInt 0)])), (pu 3, .inl (kc Y .int, 257, .inl (fun _ => Int32.ofInt (-2)))), (pt 4, .inr (2, [.ref (pu 4), .int (Int32.ofInt 0)])), (pu 4, .inl (kc Y .int, 257, .inl (fun _ => Int32.ofInt (-2)))), (pt 5, .inr (2, [.ref (pu 5), .int (Int32.ofInt 0)])), (pu 5, .inl (kc Y .int, 257, .inl (fun _ => Int32.ofInt (-2)))), (pt 6, .inr (2, [.ref (pu 6), .int (Int32.ofInt 0)])), (pu 6, .inl (kc Y .int, 257, .inl (fun _ => Int32.ofInt (-2)))), (pt 7, .inr (2, [.ref (pu 7), .int (Int32.ofInt 0)])), (pu 7, .inl (kc Y .int, 257, .inl (fun _ => Int32.ofInt (-2)))), (p0, .inr (0, [.ref p1, .ref p2, .int (Int32.ofInt 0), .int (Int32.ofInt 0)])), (p1, .inl (kc Y (.object RX2), 8, .inr (.inr (.inr (.inr (refs pt 8)))))), (p2, .inl (kc Y .int, 8, .inl (fun _ => Int32.ofInt 0))), (w0, .inr (3, [.ref w1, .int (Int32.ofInt 0), .int (Int32.ofInt (-2)), .int (Int32.ofInt 0)])), (w1, .inl (kc Y .int, 257, .inl (fun _ => Int32.ofInt 0))), (d0, .inr (2, [.ref d1, .int (Int32.ofInt 0)])), (d1, .inl (kc Y .int, 257, .inl (fun _ => Int32.ofInt (-2)))), (s0, .inr (2, [.ref s1, .int (Int32.ofInt 0)])), (s1, .inl (kc Y .int, 257, .inl (fun _ => Int32.ofInt (-2)))), (h0, .inr (2, [.ref h1, .int (Int32.ofInt 0)])), (h1, .inl (kc Y .int, 257, .inl (fun _ => Int32.ofInt (-2)))), (t 0, .inr (2, [.ref (u 0), .int (Int32.ofInt 0)])), (u 0, .inl (kc Y .int, 257, .inl (fun _ => Int32.ofInt (-2)))), (t 1, .inr (2, [.ref (u 1), .int (Int32.ofInt 0)])), (u 1, .inl (kc Y .int, 257, .inl (fun _ => Int32.ofInt (-2)))), (t 2, .inr (2, [.ref (u 2), .int (Int32.ofInt 0)])), (u 2, .inl (kc Y .int, 257, .inl (fun _ => Int32.ofInt (-2)))), (t 3, .inr (2, [.ref (u 3), .int (Int32.ofInt 0)])), (u 3, .inl (kc Y .int, 257, .inl (fun _ => Int32.ofInt (-2)))), (t 4, .inr (2, [.ref (u 4), .int (Int32.ofInt 0)])), (u 4, .inl (kc Y .int, 257, .inl (fun _ => Int32.ofInt (-2)))), (t 5, .inr (2, [.ref (u 5), .int (Int32.ofInt 0)])), (u 5, .inl (kc Y .int, 257, .inl (fun _ => Int32.ofInt (-2)))), (t 6, .inr (2, [.ref (u 6), .int (Int32.ofInt 0)])), (u 6, .inl (kc Y .int, 257, .inl (fun _ => Int32.ofInt (-2)))), (t 7, .inr (2, [.ref (u 7), .int (Int32.ofInt 0)])), (u 7, .inl (kc Y .int, 257, .inl (fun _ => Int32.ofInt (-2)))), (h, .inr (4, [.ref mq, .ref r0, .ref p0, .ref w0, .ref d0, .ref s0, .ref h0, .ref tal])), (mq, .inl (kc Y (.object RX2), 8, .inr (.inr (.inr (.inr (refs t 8)))))), (tal, .inl (kc Y .int, 257, .inl (fun _ => Int32.ofInt 0))), (mh, .inr (5, [.ref ma, .ref mb, .ref mc, .ref me, .ref mf, .int (Int32.ofInt 0), .ref mg, .ref ml, .int (Int32.ofInt 0), .int (Int32.ofInt 0), .int (Int32.ofInt 0)])), (ma, .inl (kc Y .int, 2056, .inl (fun _ => Int32.ofInt (-2)))), (mb, .inl (kc Y .int, 257, .inl (fun _ => Int32.ofInt 0))), (mc, .inl (kc Y .int, 257, .inl (fun _ => Int32.ofInt 0))), (me, .inl (kc Y .int, 60, .inl (fun _ => Int32.ofInt 0))), (mf, .inl (kc Y .int, 60, .inl (fun _ => Int32.ofInt 0))), (mg, .inl (kc Y .int, 8, .inl (fun _ => Int32.ofInt 0))), (ml, .inl (kc Y .int, 2056, .inl (fun _ => Int32.ofInt 0))), (lq, .inl (kc Y .long, (1, .inr (.inl (fun _ => Int64.ofInt 0))))), (dq, .inl (kc Y .double, (1, .inr (.inr (.inr (.inl (fun _ => UInt64.ofNat 0)))))))]
set_option maxHeartbeats 8000000 in
set_option maxRecDepth 100000 in
theorem Z61_eq (Y : kX) (h mq tal r0 r1 r2 r3 r4 p0 p1 p2 w0 w1 d0 d1 s0 s1 h0 h1 mh ma mb mc me mf mg ml lq dq : Nat) (pt pu t u : Nat → Nat) : W61 Y h mq tal r0 r1 r2 r3 r4 p0 p1 p2 w0 w1 d0 d1 s0 s1 h0 h1 mh ma mb mc me mf mg ml lq dq pt pu t u = Z61 Y h mq tal r0 r1 r2 r3 r4 p0 p1 p2 w0 w1 d0 d1 s0 s1 h0 h1 mh ma mb mc me mf mg ml lq dq pt pu t u := by
  show kwC Y h mq tal r0 r1 r2 r3 r4 p0 p1 p2 w0 w1 d0 d1 s0 s1 h0 h1 pt pu t u ++ _ = _
  simp only [kwC, rowC, pastC, walkC, tabC, modC, tabs, List.cons_append, List.nil_append]
set_option maxHeartbeats 8000000 in
set_option maxRecDepth 100000 in
theorem at61 (Y : kX) (h mq tal r0 r1 r2 r3 r4 p0 p1 p2 w0 w1 d0 d1 s0 s1 h0 h1 mh ma mb mc me mf mg ml lq dq b : Nat) (pt pu t u : Nat → Nat) (B : Nat) (j : Nat) (hj : j < 61) : ∃ e : va_E, (W61 Y h mq tal r0 r1 r2 r3 r4 p0 p1 p2 w0 w1 d0 d1 s0 s1 h0 h1 mh ma mb mc me mf mg ml lq dq pt pu t u)[pos61.getD j 0]? = some ((adr61 h mq tal r0 r1 r2 r3 r4 p0 p1 p2 w0 w1 d0 d1 s0 s1 h0 h1 mh ma mb mc me mf mg ml lq dq b pt pu t u).getD j 0, e) := by
  rw [Z61_eq]
  rcases (show j = 0 ∨ j = 1 ∨ j = 2 ∨ j = 3 ∨ j = 4 ∨ j = 5 ∨ j = 6 ∨ j = 7 ∨ j = 8 ∨ j = 9 ∨ j = 10 ∨ j = 11 ∨ j = 12 ∨ j = 13 ∨ j = 14 ∨ j = 15 ∨ j = 16 ∨ j = 17 ∨ j = 18 ∨ j = 19 ∨ j = 20 ∨ j = 21 ∨ j = 22 ∨ j = 23 ∨ j = 24 ∨ j = 25 ∨ j = 26 ∨ j = 27 ∨ j = 28 ∨ j = 29 ∨ j = 30 ∨ j = 31 ∨ j = 32 ∨ j = 33 ∨ j = 34 ∨ j = 35 ∨ j = 36 ∨ j = 37 ∨ j = 38 ∨ j = 39 ∨ j = 40 ∨ j = 41 ∨ j = 42 ∨ j = 43 ∨ j = 44 ∨ j = 45 ∨ j = 46 ∨ j = 47 ∨ j = 48 ∨ j = 49 ∨ j = 50 ∨ j = 51 ∨ j = 52 ∨ j = 53 ∨ j = 54 ∨ j = 55 ∨ j = 56 ∨ j = 57 ∨ j = 58 ∨ j = 59 ∨ j = 60 by omega) with rfl | rfl | rfl | rfl | rfl | rfl | rfl | rfl | rfl | rfl | rfl | rfl | rfl | rfl | rfl | rfl | rfl | rfl | rfl | rfl | rfl | rfl | rfl | rfl | rfl | rfl | rfl | rfl | rfl | rfl | rfl | rfl | rfl | rfl | rfl | rfl | rfl | rfl | rfl | rfl | rfl | rfl | rfl | rfl | rfl | rfl | rfl | rfl | rfl | rfl | rfl | rfl | rfl | rfl | rfl | rfl | rfl | rfl | rfl | rfl | rfl
  · exact ⟨.inl (kc Y .int, 257, .inl (fun _ => Int32.ofInt (-2))), rfl⟩
  · exact ⟨.inl (kc Y .int, 257, .inl (fun _ => Int32.ofInt (-2))), rfl⟩
  · exact ⟨.inl (kc Y .int, 257, .inl (fun _ => Int32.ofInt (-2))), rfl⟩
  · exact ⟨.inl (kc Y .int, 257, .inl (fun _ => Int32.ofInt (-2))), rfl⟩
  · exact ⟨.inl (kc Y .int, 257, .inl (fun _ => Int32.ofInt (-2))), rfl⟩
  · exact ⟨.inl (kc Y .int, 257, .inl (fun _ => Int32.ofInt (-2))), rfl⟩
  · exact ⟨.inl (kc Y .int, 257, .inl (fun _ => Int32.ofInt (-2))), rfl⟩
  · exact ⟨.inl (kc Y .int, 257, .inl (fun _ => Int32.ofInt (-2))), rfl⟩
  · exact ⟨.inl (kc Y .int, 257, .inl (fun _ => Int32.ofInt (-2))), rfl⟩
  · exact ⟨.inl (kc Y .int, 257, .inl (fun _ => Int32.ofInt (-2))), rfl⟩
  · exact ⟨.inl (kc Y .int, 257, .inl (fun _ => Int32.ofInt (-2))), rfl⟩
  · exact ⟨.inl (kc Y .int, 257, .inl (fun _ => Int32.ofInt (-2))), rfl⟩
  · exact ⟨.inl (kc Y .int, 257, .inl (fun _ => Int32.ofInt (-2))), rfl⟩
  · exact ⟨.inl (kc Y .int, 257, .inl (fun _ => Int32.ofInt (-2))), rfl⟩
  · exact ⟨.inl (kc Y .int, 257, .inl (fun _ => Int32.ofInt (-2))), rfl⟩
  · exact ⟨.inl (kc Y .int, 257, .inl (fun _ => Int32.ofInt (-2))), rfl⟩
  · exact ⟨.inl (kc Y .int, 257, .inl (fun _ => Int32.ofInt (-2))), rfl⟩
  · exact ⟨.inl (kc Y .int, 257, .inl (fun _ => Int32.ofInt (-2))), rfl⟩
  · exact ⟨.inl (kc Y .int, 257, .inl (fun _ => Int32.ofInt (-2))), rfl⟩
  · exact ⟨.inr (2, [.ref (u 0), .int (Int32.ofInt 0)]), rfl⟩
  · exact ⟨.inr (2, [.ref (u 1), .int (Int32.ofInt 0)]), rfl⟩
  · exact ⟨.inr (2, [.ref (u 2), .int (Int32.ofInt 0)]), rfl⟩
  · exact ⟨.inr (2, [.ref (u 3), .int (Int32.ofInt 0)]), rfl⟩
  · exact ⟨.inr (2, [.ref (u 4), .int (Int32.ofInt 0)]), rfl⟩
  · exact ⟨.inr (2, [.ref (u 5), .int (Int32.ofInt 0)]), rfl⟩
  · exact ⟨.inr (2, [.ref (u 6), .int (Int32.ofInt 0)]), rfl⟩
  · exact ⟨.inr (2, [.ref (u 7), .int (Int32.ofInt 0)]), rfl⟩
  · exact ⟨.inr (2, [.ref (pu 0), .int (Int32.ofInt 0)]), rfl⟩
  · exact ⟨.inr (2, [.ref (pu 1), .int (Int32.ofInt 0)]), rfl⟩
  · exact ⟨.inr (2, [.ref (pu 2), .int (Int32.ofInt 0)]), rfl⟩
  · exact ⟨.inr (2, [.ref (pu 3), .int (Int32.ofInt 0)]), rfl⟩
  · exact ⟨.inr (2, [.ref (pu 4), .int (Int32.ofInt 0)]), rfl⟩
  · exact ⟨.inr (2, [.ref (pu 5), .int (Int32.ofInt 0)]), rfl⟩
  · exact ⟨.inr (2, [.ref (pu 6), .int (Int32.ofInt 0)]), rfl⟩
  · exact ⟨.inr (2, [.ref (pu 7), .int (Int32.ofInt 0)]), rfl⟩
  · exact ⟨.inr (2, [.ref d1, .int (Int32.ofInt 0)]), rfl⟩
  · exact ⟨.inr (2, [.ref s1, .int (Int32.ofInt 0)]), rfl⟩
  · exact ⟨.inr (2, [.ref h1, .int (Int32.ofInt 0)]), rfl⟩
  · exact ⟨.inr (4, [.ref mq, .ref r0, .ref p0, .ref w0, .ref d0, .ref s0, .ref h0, .ref tal]), rfl⟩
  · exact ⟨.inl (kc Y (.object RX2), 8, .inr (.inr (.inr (.inr (refs t 8))))), rfl⟩
  · exact ⟨.inr (1, [.ref r1, .ref r2, .ref r3, .ref r4, .int (Int32.ofInt 0)]), rfl⟩
  · exact ⟨.inl (kc Y .int, 60, .inl (fun _ => Int32.ofInt 0)), rfl⟩
  · exact ⟨.inl (kc Y .int, 60, .inl (fun _ => Int32.ofInt 0)), rfl⟩
  · exact ⟨.inl (kc Y .boolean, 257, .inl (fun _ => Int32.ofInt 0)), rfl⟩
  · exact ⟨.inl (kc Y .int, 32, .inl (fun _ => Int32.ofInt 0)), rfl⟩
  · exact ⟨.inr (0, [.ref p1, .ref p2, .int (Int32.ofInt 0), .int (Int32.ofInt 0)]), rfl⟩
  · exact ⟨.inl (kc Y (.object RX2), 8, .inr (.inr (.inr (.inr (refs pt 8))))), rfl⟩
  · exact ⟨.inl (kc Y .int, 8, .inl (fun _ => Int32.ofInt 0)), rfl⟩
  · exact ⟨.inr (3, [.ref w1, .int (Int32.ofInt 0), .int (Int32.ofInt (-2)), .int (Int32.ofInt 0)]), rfl⟩
  · exact ⟨.inl (kc Y .int, 257, .inl (fun _ => Int32.ofInt 0)), rfl⟩
  · exact ⟨.inl (kc Y .int, 257, .inl (fun _ => Int32.ofInt 0)), rfl⟩
  · exact ⟨.inr (5, [.ref ma, .ref mb, .ref mc, .ref me, .ref mf, .int (Int32.ofInt 0), .ref mg, .ref ml, .int (Int32.ofInt 0), .int (Int32.ofInt 0), .int (Int32.ofInt 0)]), rfl⟩
  · exact ⟨.inl (kc Y .int, 2056, .inl (fun _ => Int32.ofInt (-2))), rfl⟩
  · exact ⟨.inl (kc Y .int, 257, .inl (fun _ => Int32.ofInt 0)), rfl⟩
  · exact ⟨.inl (kc Y .int, 257, .inl (fun _ => Int32.ofInt 0)), rfl⟩
  · exact ⟨.inl (kc Y .int, 60, .inl (fun _ => Int32.ofInt 0)), rfl⟩
  · exact ⟨.inl (kc Y .int, 60, .inl (fun _ => Int32.ofInt 0)), rfl⟩
  · exact ⟨.inl (kc Y .int, 8, .inl (fun _ => Int32.ofInt 0)), rfl⟩
  · exact ⟨.inl (kc Y .int, 2056, .inl (fun _ => Int32.ofInt 0)), rfl⟩
  · exact ⟨.inl (kc Y .long, (1, .inr (.inl (fun _ => Int64.ofInt 0)))), rfl⟩
  · exact ⟨.inl (kc Y .double, (1, .inr (.inr (.inr (.inl (fun _ => UInt64.ofNat 0)))))), rfl⟩
set_option maxHeartbeats 8000000 in
set_option maxRecDepth 100000 in
theorem cell61 (Y : kX) (h mq tal r0 r1 r2 r3 r4 p0 p1 p2 w0 w1 d0 d1 s0 s1 h0 h1 mh ma mb mc me mf mg ml lq dq b : Nat) (pt pu t u : Nat → Nat) (B : Nat) (H : Heap) (hP : va_P (kD Y) jC (W61 Y h mq tal r0 r1 r2 r3 r4 p0 p1 p2 w0 w1 d0 d1 s0 s1 h0 h1 mh ma mb mc me mf mg ml lq dq pt pu t u) H) (j : Nat) (hj : j < 61) : va_at (kD Y) jC ((adr61 h mq tal r0 r1 r2 r3 r4 p0 p1 p2 w0 w1 d0 d1 s0 s1 h0 h1 mh ma mb mc me mf mg ml lq dq b pt pu t u).getD j 0, jcell (kl Y, kD Y, (fun i => if i = 0 then kc Y .int else if i = 1 then kc Y .boolean else if i = 2 then kc Y (.object RX2) else if i = 3 then kc Y .long else kc Y .double), (fun j => (adr61 h mq tal r0 r1 r2 r3 r4 p0 p1 p2 w0 w1 d0 d1 s0 s1 h0 h1 mh ma mb mc me mf mg ml lq dq b pt pu t u).getD j 0), B) m00 j) H := by
  rw [Z61_eq] at hP
  rcases (show j = 0 ∨ j = 1 ∨ j = 2 ∨ j = 3 ∨ j = 4 ∨ j = 5 ∨ j = 6 ∨ j = 7 ∨ j = 8 ∨ j = 9 ∨ j = 10 ∨ j = 11 ∨ j = 12 ∨ j = 13 ∨ j = 14 ∨ j = 15 ∨ j = 16 ∨ j = 17 ∨ j = 18 ∨ j = 19 ∨ j = 20 ∨ j = 21 ∨ j = 22 ∨ j = 23 ∨ j = 24 ∨ j = 25 ∨ j = 26 ∨ j = 27 ∨ j = 28 ∨ j = 29 ∨ j = 30 ∨ j = 31 ∨ j = 32 ∨ j = 33 ∨ j = 34 ∨ j = 35 ∨ j = 36 ∨ j = 37 ∨ j = 38 ∨ j = 39 ∨ j = 40 ∨ j = 41 ∨ j = 42 ∨ j = 43 ∨ j = 44 ∨ j = 45 ∨ j = 46 ∨ j = 47 ∨ j = 48 ∨ j = 49 ∨ j = 50 ∨ j = 51 ∨ j = 52 ∨ j = 53 ∨ j = 54 ∨ j = 55 ∨ j = 56 ∨ j = 57 ∨ j = 58 ∨ j = 59 ∨ j = 60 by omega) with rfl | rfl | rfl | rfl | rfl | rfl | rfl | rfl | rfl | rfl | rfl | rfl | rfl | rfl | rfl | rfl | rfl | rfl | rfl | rfl | rfl | rfl | rfl | rfl | rfl | rfl | rfl | rfl | rfl | rfl | rfl | rfl | rfl | rfl | rfl | rfl | rfl | rfl | rfl | rfl | rfl | rfl | rfl | rfl | rfl | rfl | rfl | rfl | rfl | rfl | rfl | rfl | rfl | rfl | rfl | rfl | rfl | rfl | rfl | rfl | rfl
  · have e : jcell (kl Y, kD Y, (fun i => if i = 0 then kc Y .int else if i = 1 then kc Y .boolean else if i = 2 then kc Y (.object RX2) else if i = 3 then kc Y .long else kc Y .double), (fun j => (adr61 h mq tal r0 r1 r2 r3 r4 p0 p1 p2 w0 w1 d0 d1 s0 s1 h0 h1 mh ma mb mc me mf mg ml lq dq b pt pu t u).getD j 0), B) m00 0 = .inl (kc Y .int, 257, .inl (fun _ => Int32.ofInt (-2))) := rfl
    rw [e]
    exact hP 33 (u 0, .inl (kc Y .int, 257, .inl (fun _ => Int32.ofInt (-2)))) rfl
  · have e : jcell (kl Y, kD Y, (fun i => if i = 0 then kc Y .int else if i = 1 then kc Y .boolean else if i = 2 then kc Y (.object RX2) else if i = 3 then kc Y .long else kc Y .double), (fun j => (adr61 h mq tal r0 r1 r2 r3 r4 p0 p1 p2 w0 w1 d0 d1 s0 s1 h0 h1 mh ma mb mc me mf mg ml lq dq b pt pu t u).getD j 0), B) m00 1 = .inl (kc Y .int, 257, .inl (fun _ => Int32.ofInt (-2))) := rfl
    rw [e]
    exact hP 35 (u 1, .inl (kc Y .int, 257, .inl (fun _ => Int32.ofInt (-2)))) rfl
  · have e : jcell (kl Y, kD Y, (fun i => if i = 0 then kc Y .int else if i = 1 then kc Y .boolean else if i = 2 then kc Y (.object RX2) else if i = 3 then kc Y .long else kc Y .double), (fun j => (adr61 h mq tal r0 r1 r2 r3 r4 p0 p1 p2 w0 w1 d0 d1 s0 s1 h0 h1 mh ma mb mc me mf mg ml lq dq b pt pu t u).getD j 0), B) m00 2 = .inl (kc Y .int, 257, .inl (fun _ => Int32.ofInt (-2))) := rfl
    rw [e]
    exact hP 37 (u 2, .inl (kc Y .int, 257, .inl (fun _ => Int32.ofInt (-2)))) rfl
  · have e : jcell (kl Y, kD Y, (fun i => if i = 0 then kc Y .int else if i = 1 then kc Y .boolean else if i = 2 then kc Y (.object RX2) else if i = 3 then kc Y .long else kc Y .double), (fun j => (adr61 h mq tal r0 r1 r2 r3 r4 p0 p1 p2 w0 w1 d0 d1 s0 s1 h0 h1 mh ma mb mc me mf mg ml lq dq b pt pu t u).getD j 0), B) m00 3 = .inl (kc Y .int, 257, .inl (fun _ => Int32.ofInt (-2))) := rfl
    rw [e]
    exact hP 39 (u 3, .inl (kc Y .int, 257, .inl (fun _ => Int32.ofInt (-2)))) rfl
  · have e : jcell (kl Y, kD Y, (fun i => if i = 0 then kc Y .int else if i = 1 then kc Y .boolean else if i = 2 then kc Y (.object RX2) else if i = 3 then kc Y .long else kc Y .double), (fun j => (adr61 h mq tal r0 r1 r2 r3 r4 p0 p1 p2 w0 w1 d0 d1 s0 s1 h0 h1 mh ma mb mc me mf mg ml lq dq b pt pu t u).getD j 0), B) m00 4 = .inl (kc Y .int, 257, .inl (fun _ => Int32.ofInt (-2))) := rfl
    rw [e]
    exact hP 41 (u 4, .inl (kc Y .int, 257, .inl (fun _ => Int32.ofInt (-2)))) rfl
  · have e : jcell (kl Y, kD Y, (fun i => if i = 0 then kc Y .int else if i = 1 then kc Y .boolean else if i = 2 then kc Y (.object RX2) else if i = 3 then kc Y .long else kc Y .double), (fun j => (adr61 h mq tal r0 r1 r2 r3 r4 p0 p1 p2 w0 w1 d0 d1 s0 s1 h0 h1 mh ma mb mc me mf mg ml lq dq b pt pu t u).getD j 0), B) m00 5 = .inl (kc Y .int, 257, .inl (fun _ => Int32.ofInt (-2))) := rfl
    rw [e]
    exact hP 43 (u 5, .inl (kc Y .int, 257, .inl (fun _ => Int32.ofInt (-2)))) rfl
  · have e : jcell (kl Y, kD Y, (fun i => if i = 0 then kc Y .int else if i = 1 then kc Y .boolean else if i = 2 then kc Y (.object RX2) else if i = 3 then kc Y .long else kc Y .double), (fun j => (adr61 h mq tal r0 r1 r2 r3 r4 p0 p1 p2 w0 w1 d0 d1 s0 s1 h0 h1 mh ma mb mc me mf mg ml lq dq b pt pu t u).getD j 0), B) m00 6 = .inl (kc Y .int, 257, .inl (fun _ => Int32.ofInt (-2))) := rfl
    rw [e]
    exact hP 45 (u 6, .inl (kc Y .int, 257, .inl (fun _ => Int32.ofInt (-2)))) rfl
  · have e : jcell (kl Y, kD Y, (fun i => if i = 0 then kc Y .int else if i = 1 then kc Y .boolean else if i = 2 then kc Y (.object RX2) else if i = 3 then kc Y .long else kc Y .double), (fun j => (adr61 h mq tal r0 r1 r2 r3 r4 p0 p1 p2 w0 w1 d0 d1 s0 s1 h0 h1 mh ma mb mc me mf mg ml lq dq b pt pu t u).getD j 0), B) m00 7 = .inl (kc Y .int, 257, .inl (fun _ => Int32.ofInt (-2))) := rfl
    rw [e]
    exact hP 47 (u 7, .inl (kc Y .int, 257, .inl (fun _ => Int32.ofInt (-2)))) rfl
  · have e : jcell (kl Y, kD Y, (fun i => if i = 0 then kc Y .int else if i = 1 then kc Y .boolean else if i = 2 then kc Y (.object RX2) else if i = 3 then kc Y .long else kc Y .double), (fun j => (adr61 h mq tal r0 r1 r2 r3 r4 p0 p1 p2 w0 w1 d0 d1 s0 s1 h0 h1 mh ma mb mc me mf mg ml lq dq b pt pu t u).getD j 0), B) m00 8 = .inl (kc Y .int, 257, .inl (fun _ => Int32.ofInt (-2))) := rfl
    rw [e]
    exact hP 6 (pu 0, .inl (kc Y .int, 257, .inl (fun _ => Int32.ofInt (-2)))) rfl
  · have e : jcell (kl Y, kD Y, (fun i => if i = 0 then kc Y .int else if i = 1 then kc Y .boolean else if i = 2 then kc Y (.object RX2) else if i = 3 then kc Y .long else kc Y .double), (fun j => (adr61 h mq tal r0 r1 r2 r3 r4 p0 p1 p2 w0 w1 d0 d1 s0 s1 h0 h1 mh ma mb mc me mf mg ml lq dq b pt pu t u).getD j 0), B) m00 9 = .inl (kc Y .int, 257, .inl (fun _ => Int32.ofInt (-2))) := rfl
    rw [e]
    exact hP 8 (pu 1, .inl (kc Y .int, 257, .inl (fun _ => Int32.ofInt (-2)))) rfl
  · have e : jcell (kl Y, kD Y, (fun i => if i = 0 then kc Y .int else if i = 1 then kc Y .boolean else if i = 2 then kc Y (.object RX2) else if i = 3 then kc Y .long else kc Y .double), (fun j => (adr61 h mq tal r0 r1 r2 r3 r4 p0 p1 p2 w0 w1 d0 d1 s0 s1 h0 h1 mh ma mb mc me mf mg ml lq dq b pt pu t u).getD j 0), B) m00 10 = .inl (kc Y .int, 257, .inl (fun _ => Int32.ofInt (-2))) := rfl
    rw [e]
    exact hP 10 (pu 2, .inl (kc Y .int, 257, .inl (fun _ => Int32.ofInt (-2)))) rfl
  · have e : jcell (kl Y, kD Y, (fun i => if i = 0 then kc Y .int else if i = 1 then kc Y .boolean else if i = 2 then kc Y (.object RX2) else if i = 3 then kc Y .long else kc Y .double), (fun j => (adr61 h mq tal r0 r1 r2 r3 r4 p0 p1 p2 w0 w1 d0 d1 s0 s1 h0 h1 mh ma mb mc me mf mg ml lq dq b pt pu t u).getD j 0), B) m00 11 = .inl (kc Y .int, 257, .inl (fun _ => Int32.ofInt (-2))) := rfl
    rw [e]
    exact hP 12 (pu 3, .inl (kc Y .int, 257, .inl (fun _ => Int32.ofInt (-2)))) rfl
  · have e : jcell (kl Y, kD Y, (fun i => if i = 0 then kc Y .int else if i = 1 then kc Y .boolean else if i = 2 then kc Y (.object RX2) else if i = 3 then kc Y .long else kc Y .double), (fun j => (adr61 h mq tal r0 r1 r2 r3 r4 p0 p1 p2 w0 w1 d0 d1 s0 s1 h0 h1 mh ma mb mc me mf mg ml lq dq b pt pu t u).getD j 0), B) m00 12 = .inl (kc Y .int, 257, .inl (fun _ => Int32.ofInt (-2))) := rfl
    rw [e]
    exact hP 14 (pu 4, .inl (kc Y .int, 257, .inl (fun _ => Int32.ofInt (-2)))) rfl
  · have e : jcell (kl Y, kD Y, (fun i => if i = 0 then kc Y .int else if i = 1 then kc Y .boolean else if i = 2 then kc Y (.object RX2) else if i = 3 then kc Y .long else kc Y .double), (fun j => (adr61 h mq tal r0 r1 r2 r3 r4 p0 p1 p2 w0 w1 d0 d1 s0 s1 h0 h1 mh ma mb mc me mf mg ml lq dq b pt pu t u).getD j 0), B) m00 13 = .inl (kc Y .int, 257, .inl (fun _ => Int32.ofInt (-2))) := rfl
    rw [e]
    exact hP 16 (pu 5, .inl (kc Y .int, 257, .inl (fun _ => Int32.ofInt (-2)))) rfl
  · have e : jcell (kl Y, kD Y, (fun i => if i = 0 then kc Y .int else if i = 1 then kc Y .boolean else if i = 2 then kc Y (.object RX2) else if i = 3 then kc Y .long else kc Y .double), (fun j => (adr61 h mq tal r0 r1 r2 r3 r4 p0 p1 p2 w0 w1 d0 d1 s0 s1 h0 h1 mh ma mb mc me mf mg ml lq dq b pt pu t u).getD j 0), B) m00 14 = .inl (kc Y .int, 257, .inl (fun _ => Int32.ofInt (-2))) := rfl
    rw [e]
    exact hP 18 (pu 6, .inl (kc Y .int, 257, .inl (fun _ => Int32.ofInt (-2)))) rfl
  · have e : jcell (kl Y, kD Y, (fun i => if i = 0 then kc Y .int else if i = 1 then kc Y .boolean else if i = 2 then kc Y (.object RX2) else if i = 3 then kc Y .long else kc Y .double), (fun j => (adr61 h mq tal r0 r1 r2 r3 r4 p0 p1 p2 w0 w1 d0 d1 s0 s1 h0 h1 mh ma mb mc me mf mg ml lq dq b pt pu t u).getD j 0), B) m00 15 = .inl (kc Y .int, 257, .inl (fun _ => Int32.ofInt (-2))) := rfl
    rw [e]
    exact hP 20 (pu 7, .inl (kc Y .int, 257, .inl (fun _ => Int32.ofInt (-2)))) rfl
  · have e : jcell (kl Y, kD Y, (fun i => if i = 0 then kc Y .int else if i = 1 then kc Y .boolean else if i = 2 then kc Y (.object RX2) else if i = 3 then kc Y .long else kc Y .double), (fun j => (adr61 h mq tal r0 r1 r2 r3 r4 p0 p1 p2 w0 w1 d0 d1 s0 s1 h0 h1 mh ma mb mc me mf mg ml lq dq b pt pu t u).getD j 0), B) m00 16 = .inl (kc Y .int, 257, .inl (fun _ => Int32.ofInt (-2))) := rfl
    rw [e]
    exact hP 27 (d1, .inl (kc Y .int, 257, .inl (fun _ => Int32.ofInt (-2)))) rfl
  · have e : jcell (kl Y, kD Y, (fun i => if i = 0 then kc Y .int else if i = 1 then kc Y .boolean else if i = 2 then kc Y (.object RX2) else if i = 3 then kc Y .long else kc Y .double), (fun j => (adr61 h mq tal r0 r1 r2 r3 r4 p0 p1 p2 w0 w1 d0 d1 s0 s1 h0 h1 mh ma mb mc me mf mg ml lq dq b pt pu t u).getD j 0), B) m00 17 = .inl (kc Y .int, 257, .inl (fun _ => Int32.ofInt (-2))) := rfl
    rw [e]
    exact hP 29 (s1, .inl (kc Y .int, 257, .inl (fun _ => Int32.ofInt (-2)))) rfl
  · have e : jcell (kl Y, kD Y, (fun i => if i = 0 then kc Y .int else if i = 1 then kc Y .boolean else if i = 2 then kc Y (.object RX2) else if i = 3 then kc Y .long else kc Y .double), (fun j => (adr61 h mq tal r0 r1 r2 r3 r4 p0 p1 p2 w0 w1 d0 d1 s0 s1 h0 h1 mh ma mb mc me mf mg ml lq dq b pt pu t u).getD j 0), B) m00 18 = .inl (kc Y .int, 257, .inl (fun _ => Int32.ofInt (-2))) := rfl
    rw [e]
    exact hP 31 (h1, .inl (kc Y .int, 257, .inl (fun _ => Int32.ofInt (-2)))) rfl
  · have e : jcell (kl Y, kD Y, (fun i => if i = 0 then kc Y .int else if i = 1 then kc Y .boolean else if i = 2 then kc Y (.object RX2) else if i = 3 then kc Y .long else kc Y .double), (fun j => (adr61 h mq tal r0 r1 r2 r3 r4 p0 p1 p2 w0 w1 d0 d1 s0 s1 h0 h1 mh ma mb mc me mf mg ml lq dq b pt pu t u).getD j 0), B) m00 19 = .inr (2, [.ref (u 0), .int (Int32.ofInt 0)]) := rfl
    rw [e]
    exact hP 32 (t 0, .inr (2, [.ref (u 0), .int (Int32.ofInt 0)])) rfl
  · have e : jcell (kl Y, kD Y, (fun i => if i = 0 then kc Y .int else if i = 1 then kc Y .boolean else if i = 2 then kc Y (.object RX2) else if i = 3 then kc Y .long else kc Y .double), (fun j => (adr61 h mq tal r0 r1 r2 r3 r4 p0 p1 p2 w0 w1 d0 d1 s0 s1 h0 h1 mh ma mb mc me mf mg ml lq dq b pt pu t u).getD j 0), B) m00 20 = .inr (2, [.ref (u 1), .int (Int32.ofInt 0)]) := rfl
    rw [e]
    exact hP 34 (t 1, .inr (2, [.ref (u 1), .int (Int32.ofInt 0)])) rfl
  · have e : jcell (kl Y, kD Y, (fun i => if i = 0 then kc Y .int else if i = 1 then kc Y .boolean else if i = 2 then kc Y (.object RX2) else if i = 3 then kc Y .long else kc Y .double), (fun j => (adr61 h mq tal r0 r1 r2 r3 r4 p0 p1 p2 w0 w1 d0 d1 s0 s1 h0 h1 mh ma mb mc me mf mg ml lq dq b pt pu t u).getD j 0), B) m00 21 = .inr (2, [.ref (u 2), .int (Int32.ofInt 0)]) := rfl
    rw [e]
    exact hP 36 (t 2, .inr (2, [.ref (u 2), .int (Int32.ofInt 0)])) rfl
  · have e : jcell (kl Y, kD Y, (fun i => if i = 0 then kc Y .int else if i = 1 then kc Y .boolean else if i = 2 then kc Y (.object RX2) else if i = 3 then kc Y .long else kc Y .double), (fun j => (adr61 h mq tal r0 r1 r2 r3 r4 p0 p1 p2 w0 w1 d0 d1 s0 s1 h0 h1 mh ma mb mc me mf mg ml lq dq b pt pu t u).getD j 0), B) m00 22 = .inr (2, [.ref (u 3), .int (Int32.ofInt 0)]) := rfl
    rw [e]
    exact hP 38 (t 3, .inr (2, [.ref (u 3), .int (Int32.ofInt 0)])) rfl
  · have e : jcell (kl Y, kD Y, (fun i => if i = 0 then kc Y .int else if i = 1 then kc Y .boolean else if i = 2 then kc Y (.object RX2) else if i = 3 then kc Y .long else kc Y .double), (fun j => (adr61 h mq tal r0 r1 r2 r3 r4 p0 p1 p2 w0 w1 d0 d1 s0 s1 h0 h1 mh ma mb mc me mf mg ml lq dq b pt pu t u).getD j 0), B) m00 23 = .inr (2, [.ref (u 4), .int (Int32.ofInt 0)]) := rfl
    rw [e]
    exact hP 40 (t 4, .inr (2, [.ref (u 4), .int (Int32.ofInt 0)])) rfl
  · have e : jcell (kl Y, kD Y, (fun i => if i = 0 then kc Y .int else if i = 1 then kc Y .boolean else if i = 2 then kc Y (.object RX2) else if i = 3 then kc Y .long else kc Y .double), (fun j => (adr61 h mq tal r0 r1 r2 r3 r4 p0 p1 p2 w0 w1 d0 d1 s0 s1 h0 h1 mh ma mb mc me mf mg ml lq dq b pt pu t u).getD j 0), B) m00 24 = .inr (2, [.ref (u 5), .int (Int32.ofInt 0)]) := rfl
    rw [e]
    exact hP 42 (t 5, .inr (2, [.ref (u 5), .int (Int32.ofInt 0)])) rfl
  · have e : jcell (kl Y, kD Y, (fun i => if i = 0 then kc Y .int else if i = 1 then kc Y .boolean else if i = 2 then kc Y (.object RX2) else if i = 3 then kc Y .long else kc Y .double), (fun j => (adr61 h mq tal r0 r1 r2 r3 r4 p0 p1 p2 w0 w1 d0 d1 s0 s1 h0 h1 mh ma mb mc me mf mg ml lq dq b pt pu t u).getD j 0), B) m00 25 = .inr (2, [.ref (u 6), .int (Int32.ofInt 0)]) := rfl
    rw [e]
    exact hP 44 (t 6, .inr (2, [.ref (u 6), .int (Int32.ofInt 0)])) rfl
  · have e : jcell (kl Y, kD Y, (fun i => if i = 0 then kc Y .int else if i = 1 then kc Y .boolean else if i = 2 then kc Y (.object RX2) else if i = 3 then kc Y .long else kc Y .double), (fun j => (adr61 h mq tal r0 r1 r2 r3 r4 p0 p1 p2 w0 w1 d0 d1 s0 s1 h0 h1 mh ma mb mc me mf mg ml lq dq b pt pu t u).getD j 0), B) m00 26 = .inr (2, [.ref (u 7), .int (Int32.ofInt 0)]) := rfl
    rw [e]
    exact hP 46 (t 7, .inr (2, [.ref (u 7), .int (Int32.ofInt 0)])) rfl
  · have e : jcell (kl Y, kD Y, (fun i => if i = 0 then kc Y .int else if i = 1 then kc Y .boolean else if i = 2 then kc Y (.object RX2) else if i = 3 then kc Y .long else kc Y .double), (fun j => (adr61 h mq tal r0 r1 r2 r3 r4 p0 p1 p2 w0 w1 d0 d1 s0 s1 h0 h1 mh ma mb mc me mf mg ml lq dq b pt pu t u).getD j 0), B) m00 27 = .inr (2, [.ref (pu 0), .int (Int32.ofInt 0)]) := rfl
    rw [e]
    exact hP 5 (pt 0, .inr (2, [.ref (pu 0), .int (Int32.ofInt 0)])) rfl
  · have e : jcell (kl Y, kD Y, (fun i => if i = 0 then kc Y .int else if i = 1 then kc Y .boolean else if i = 2 then kc Y (.object RX2) else if i = 3 then kc Y .long else kc Y .double), (fun j => (adr61 h mq tal r0 r1 r2 r3 r4 p0 p1 p2 w0 w1 d0 d1 s0 s1 h0 h1 mh ma mb mc me mf mg ml lq dq b pt pu t u).getD j 0), B) m00 28 = .inr (2, [.ref (pu 1), .int (Int32.ofInt 0)]) := rfl
    rw [e]
    exact hP 7 (pt 1, .inr (2, [.ref (pu 1), .int (Int32.ofInt 0)])) rfl
  · have e : jcell (kl Y, kD Y, (fun i => if i = 0 then kc Y .int else if i = 1 then kc Y .boolean else if i = 2 then kc Y (.object RX2) else if i = 3 then kc Y .long else kc Y .double), (fun j => (adr61 h mq tal r0 r1 r2 r3 r4 p0 p1 p2 w0 w1 d0 d1 s0 s1 h0 h1 mh ma mb mc me mf mg ml lq dq b pt pu t u).getD j 0), B) m00 29 = .inr (2, [.ref (pu 2), .int (Int32.ofInt 0)]) := rfl
    rw [e]
    exact hP 9 (pt 2, .inr (2, [.ref (pu 2), .int (Int32.ofInt 0)])) rfl
  · have e : jcell (kl Y, kD Y, (fun i => if i = 0 then kc Y .int else if i = 1 then kc Y .boolean else if i = 2 then kc Y (.object RX2) else if i = 3 then kc Y .long else kc Y .double), (fun j => (adr61 h mq tal r0 r1 r2 r3 r4 p0 p1 p2 w0 w1 d0 d1 s0 s1 h0 h1 mh ma mb mc me mf mg ml lq dq b pt pu t u).getD j 0), B) m00 30 = .inr (2, [.ref (pu 3), .int (Int32.ofInt 0)]) := rfl
    rw [e]
    exact hP 11 (pt 3, .inr (2, [.ref (pu 3), .int (Int32.ofInt 0)])) rfl
  · have e : jcell (kl Y, kD Y, (fun i => if i = 0 then kc Y .int else if i = 1 then kc Y .boolean else if i = 2 then kc Y (.object RX2) else if i = 3 then kc Y .long else kc Y .double), (fun j => (adr61 h mq tal r0 r1 r2 r3 r4 p0 p1 p2 w0 w1 d0 d1 s0 s1 h0 h1 mh ma mb mc me mf mg ml lq dq b pt pu t u).getD j 0), B) m00 31 = .inr (2, [.ref (pu 4), .int (Int32.ofInt 0)]) := rfl
    rw [e]
    exact hP 13 (pt 4, .inr (2, [.ref (pu 4), .int (Int32.ofInt 0)])) rfl
  · have e : jcell (kl Y, kD Y, (fun i => if i = 0 then kc Y .int else if i = 1 then kc Y .boolean else if i = 2 then kc Y (.object RX2) else if i = 3 then kc Y .long else kc Y .double), (fun j => (adr61 h mq tal r0 r1 r2 r3 r4 p0 p1 p2 w0 w1 d0 d1 s0 s1 h0 h1 mh ma mb mc me mf mg ml lq dq b pt pu t u).getD j 0), B) m00 32 = .inr (2, [.ref (pu 5), .int (Int32.ofInt 0)]) := rfl
    rw [e]
    exact hP 15 (pt 5, .inr (2, [.ref (pu 5), .int (Int32.ofInt 0)])) rfl
  · have e : jcell (kl Y, kD Y, (fun i => if i = 0 then kc Y .int else if i = 1 then kc Y .boolean else if i = 2 then kc Y (.object RX2) else if i = 3 then kc Y .long else kc Y .double), (fun j => (adr61 h mq tal r0 r1 r2 r3 r4 p0 p1 p2 w0 w1 d0 d1 s0 s1 h0 h1 mh ma mb mc me mf mg ml lq dq b pt pu t u).getD j 0), B) m00 33 = .inr (2, [.ref (pu 6), .int (Int32.ofInt 0)]) := rfl
    rw [e]
    exact hP 17 (pt 6, .inr (2, [.ref (pu 6), .int (Int32.ofInt 0)])) rfl
  · have e : jcell (kl Y, kD Y, (fun i => if i = 0 then kc Y .int else if i = 1 then kc Y .boolean else if i = 2 then kc Y (.object RX2) else if i = 3 then kc Y .long else kc Y .double), (fun j => (adr61 h mq tal r0 r1 r2 r3 r4 p0 p1 p2 w0 w1 d0 d1 s0 s1 h0 h1 mh ma mb mc me mf mg ml lq dq b pt pu t u).getD j 0), B) m00 34 = .inr (2, [.ref (pu 7), .int (Int32.ofInt 0)]) := rfl
    rw [e]
    exact hP 19 (pt 7, .inr (2, [.ref (pu 7), .int (Int32.ofInt 0)])) rfl
  · have e : jcell (kl Y, kD Y, (fun i => if i = 0 then kc Y .int else if i = 1 then kc Y .boolean else if i = 2 then kc Y (.object RX2) else if i = 3 then kc Y .long else kc Y .double), (fun j => (adr61 h mq tal r0 r1 r2 r3 r4 p0 p1 p2 w0 w1 d0 d1 s0 s1 h0 h1 mh ma mb mc me mf mg ml lq dq b pt pu t u).getD j 0), B) m00 35 = .inr (2, [.ref d1, .int (Int32.ofInt 0)]) := rfl
    rw [e]
    exact hP 26 (d0, .inr (2, [.ref d1, .int (Int32.ofInt 0)])) rfl
  · have e : jcell (kl Y, kD Y, (fun i => if i = 0 then kc Y .int else if i = 1 then kc Y .boolean else if i = 2 then kc Y (.object RX2) else if i = 3 then kc Y .long else kc Y .double), (fun j => (adr61 h mq tal r0 r1 r2 r3 r4 p0 p1 p2 w0 w1 d0 d1 s0 s1 h0 h1 mh ma mb mc me mf mg ml lq dq b pt pu t u).getD j 0), B) m00 36 = .inr (2, [.ref s1, .int (Int32.ofInt 0)]) := rfl
    rw [e]
    exact hP 28 (s0, .inr (2, [.ref s1, .int (Int32.ofInt 0)])) rfl
  · have e : jcell (kl Y, kD Y, (fun i => if i = 0 then kc Y .int else if i = 1 then kc Y .boolean else if i = 2 then kc Y (.object RX2) else if i = 3 then kc Y .long else kc Y .double), (fun j => (adr61 h mq tal r0 r1 r2 r3 r4 p0 p1 p2 w0 w1 d0 d1 s0 s1 h0 h1 mh ma mb mc me mf mg ml lq dq b pt pu t u).getD j 0), B) m00 37 = .inr (2, [.ref h1, .int (Int32.ofInt 0)]) := rfl
    rw [e]
    exact hP 30 (h0, .inr (2, [.ref h1, .int (Int32.ofInt 0)])) rfl
  · have e : jcell (kl Y, kD Y, (fun i => if i = 0 then kc Y .int else if i = 1 then kc Y .boolean else if i = 2 then kc Y (.object RX2) else if i = 3 then kc Y .long else kc Y .double), (fun j => (adr61 h mq tal r0 r1 r2 r3 r4 p0 p1 p2 w0 w1 d0 d1 s0 s1 h0 h1 mh ma mb mc me mf mg ml lq dq b pt pu t u).getD j 0), B) m00 38 = .inr (4, [.ref mq, .ref r0, .ref p0, .ref w0, .ref d0, .ref s0, .ref h0, .ref tal]) := rfl
    rw [e]
    exact hP 48 (h, .inr (4, [.ref mq, .ref r0, .ref p0, .ref w0, .ref d0, .ref s0, .ref h0, .ref tal])) rfl
  · have g1 : va_at (kD Y) jC (mq, .inl (kc Y (.object RX2), 8, .inr (.inr (.inr (.inr (refs t 8)))))) H := hP 49 _ rfl
    refine Eq.trans (show H[mq]? = _ from g1) (congrArg some ?_)
    refine jarr_ext (c := kc Y (.object RX2)) (n := 8) (f := fun k => va_rf (refs t 8 k)) (g := fun k => va_rf (some ((adr61 h mq tal r0 r1 r2 r3 r4 p0 p1 p2 w0 w1 d0 d1 s0 s1 h0 h1 mh ma mb mc me mf mg ml lq dq b pt pu t u).getD (19 + k) 0))) (fun k hk => ?_)
    rcases (show k = 0 ∨ k = 1 ∨ k = 2 ∨ k = 3 ∨ k = 4 ∨ k = 5 ∨ k = 6 ∨ k = 7 by omega) with rfl | rfl | rfl | rfl | rfl | rfl | rfl | rfl
    all_goals rfl
  · have e : jcell (kl Y, kD Y, (fun i => if i = 0 then kc Y .int else if i = 1 then kc Y .boolean else if i = 2 then kc Y (.object RX2) else if i = 3 then kc Y .long else kc Y .double), (fun j => (adr61 h mq tal r0 r1 r2 r3 r4 p0 p1 p2 w0 w1 d0 d1 s0 s1 h0 h1 mh ma mb mc me mf mg ml lq dq b pt pu t u).getD j 0), B) m00 40 = .inr (1, [.ref r1, .ref r2, .ref r3, .ref r4, .int (Int32.ofInt 0)]) := rfl
    rw [e]
    exact hP 0 (r0, .inr (1, [.ref r1, .ref r2, .ref r3, .ref r4, .int (Int32.ofInt 0)])) rfl
  · have e : jcell (kl Y, kD Y, (fun i => if i = 0 then kc Y .int else if i = 1 then kc Y .boolean else if i = 2 then kc Y (.object RX2) else if i = 3 then kc Y .long else kc Y .double), (fun j => (adr61 h mq tal r0 r1 r2 r3 r4 p0 p1 p2 w0 w1 d0 d1 s0 s1 h0 h1 mh ma mb mc me mf mg ml lq dq b pt pu t u).getD j 0), B) m00 41 = .inl (kc Y .int, 60, .inl (fun _ => Int32.ofInt 0)) := rfl
    rw [e]
    exact hP 1 (r1, .inl (kc Y .int, 60, .inl (fun _ => Int32.ofInt 0))) rfl
  · have e : jcell (kl Y, kD Y, (fun i => if i = 0 then kc Y .int else if i = 1 then kc Y .boolean else if i = 2 then kc Y (.object RX2) else if i = 3 then kc Y .long else kc Y .double), (fun j => (adr61 h mq tal r0 r1 r2 r3 r4 p0 p1 p2 w0 w1 d0 d1 s0 s1 h0 h1 mh ma mb mc me mf mg ml lq dq b pt pu t u).getD j 0), B) m00 42 = .inl (kc Y .int, 60, .inl (fun _ => Int32.ofInt 0)) := rfl
    rw [e]
    exact hP 2 (r2, .inl (kc Y .int, 60, .inl (fun _ => Int32.ofInt 0))) rfl
  · have e : jcell (kl Y, kD Y, (fun i => if i = 0 then kc Y .int else if i = 1 then kc Y .boolean else if i = 2 then kc Y (.object RX2) else if i = 3 then kc Y .long else kc Y .double), (fun j => (adr61 h mq tal r0 r1 r2 r3 r4 p0 p1 p2 w0 w1 d0 d1 s0 s1 h0 h1 mh ma mb mc me mf mg ml lq dq b pt pu t u).getD j 0), B) m00 43 = .inl (kc Y .boolean, 257, .inl (fun _ => Int32.ofInt 0)) := rfl
    rw [e]
    exact hP 3 (r3, .inl (kc Y .boolean, 257, .inl (fun _ => Int32.ofInt 0))) rfl
  · have e : jcell (kl Y, kD Y, (fun i => if i = 0 then kc Y .int else if i = 1 then kc Y .boolean else if i = 2 then kc Y (.object RX2) else if i = 3 then kc Y .long else kc Y .double), (fun j => (adr61 h mq tal r0 r1 r2 r3 r4 p0 p1 p2 w0 w1 d0 d1 s0 s1 h0 h1 mh ma mb mc me mf mg ml lq dq b pt pu t u).getD j 0), B) m00 44 = .inl (kc Y .int, 32, .inl (fun _ => Int32.ofInt 0)) := rfl
    rw [e]
    exact hP 4 (r4, .inl (kc Y .int, 32, .inl (fun _ => Int32.ofInt 0))) rfl
  · have e : jcell (kl Y, kD Y, (fun i => if i = 0 then kc Y .int else if i = 1 then kc Y .boolean else if i = 2 then kc Y (.object RX2) else if i = 3 then kc Y .long else kc Y .double), (fun j => (adr61 h mq tal r0 r1 r2 r3 r4 p0 p1 p2 w0 w1 d0 d1 s0 s1 h0 h1 mh ma mb mc me mf mg ml lq dq b pt pu t u).getD j 0), B) m00 45 = .inr (0, [.ref p1, .ref p2, .int (Int32.ofInt 0), .int (Int32.ofInt 0)]) := rfl
    rw [e]
    exact hP 21 (p0, .inr (0, [.ref p1, .ref p2, .int (Int32.ofInt 0), .int (Int32.ofInt 0)])) rfl
  · have g1 : va_at (kD Y) jC (p1, .inl (kc Y (.object RX2), 8, .inr (.inr (.inr (.inr (refs pt 8)))))) H := hP 22 _ rfl
    refine Eq.trans (show H[p1]? = _ from g1) (congrArg some ?_)
    refine jarr_ext (c := kc Y (.object RX2)) (n := 8) (f := fun k => va_rf (refs pt 8 k)) (g := fun k => va_rf (some ((adr61 h mq tal r0 r1 r2 r3 r4 p0 p1 p2 w0 w1 d0 d1 s0 s1 h0 h1 mh ma mb mc me mf mg ml lq dq b pt pu t u).getD (27 + k) 0))) (fun k hk => ?_)
    rcases (show k = 0 ∨ k = 1 ∨ k = 2 ∨ k = 3 ∨ k = 4 ∨ k = 5 ∨ k = 6 ∨ k = 7 by omega) with rfl | rfl | rfl | rfl | rfl | rfl | rfl | rfl
    all_goals rfl
  · have e : jcell (kl Y, kD Y, (fun i => if i = 0 then kc Y .int else if i = 1 then kc Y .boolean else if i = 2 then kc Y (.object RX2) else if i = 3 then kc Y .long else kc Y .double), (fun j => (adr61 h mq tal r0 r1 r2 r3 r4 p0 p1 p2 w0 w1 d0 d1 s0 s1 h0 h1 mh ma mb mc me mf mg ml lq dq b pt pu t u).getD j 0), B) m00 47 = .inl (kc Y .int, 8, .inl (fun _ => Int32.ofInt 0)) := rfl
    rw [e]
    exact hP 23 (p2, .inl (kc Y .int, 8, .inl (fun _ => Int32.ofInt 0))) rfl
  · have e : jcell (kl Y, kD Y, (fun i => if i = 0 then kc Y .int else if i = 1 then kc Y .boolean else if i = 2 then kc Y (.object RX2) else if i = 3 then kc Y .long else kc Y .double), (fun j => (adr61 h mq tal r0 r1 r2 r3 r4 p0 p1 p2 w0 w1 d0 d1 s0 s1 h0 h1 mh ma mb mc me mf mg ml lq dq b pt pu t u).getD j 0), B) m00 48 = .inr (3, [.ref w1, .int (Int32.ofInt 0), .int (Int32.ofInt (-2)), .int (Int32.ofInt 0)]) := rfl
    rw [e]
    exact hP 24 (w0, .inr (3, [.ref w1, .int (Int32.ofInt 0), .int (Int32.ofInt (-2)), .int (Int32.ofInt 0)])) rfl
  · have e : jcell (kl Y, kD Y, (fun i => if i = 0 then kc Y .int else if i = 1 then kc Y .boolean else if i = 2 then kc Y (.object RX2) else if i = 3 then kc Y .long else kc Y .double), (fun j => (adr61 h mq tal r0 r1 r2 r3 r4 p0 p1 p2 w0 w1 d0 d1 s0 s1 h0 h1 mh ma mb mc me mf mg ml lq dq b pt pu t u).getD j 0), B) m00 49 = .inl (kc Y .int, 257, .inl (fun _ => Int32.ofInt 0)) := rfl
    rw [e]
    exact hP 25 (w1, .inl (kc Y .int, 257, .inl (fun _ => Int32.ofInt 0))) rfl
  · have e : jcell (kl Y, kD Y, (fun i => if i = 0 then kc Y .int else if i = 1 then kc Y .boolean else if i = 2 then kc Y (.object RX2) else if i = 3 then kc Y .long else kc Y .double), (fun j => (adr61 h mq tal r0 r1 r2 r3 r4 p0 p1 p2 w0 w1 d0 d1 s0 s1 h0 h1 mh ma mb mc me mf mg ml lq dq b pt pu t u).getD j 0), B) m00 50 = .inl (kc Y .int, 257, .inl (fun _ => Int32.ofInt 0)) := rfl
    rw [e]
    exact hP 50 (tal, .inl (kc Y .int, 257, .inl (fun _ => Int32.ofInt 0))) rfl
  · have e : jcell (kl Y, kD Y, (fun i => if i = 0 then kc Y .int else if i = 1 then kc Y .boolean else if i = 2 then kc Y (.object RX2) else if i = 3 then kc Y .long else kc Y .double), (fun j => (adr61 h mq tal r0 r1 r2 r3 r4 p0 p1 p2 w0 w1 d0 d1 s0 s1 h0 h1 mh ma mb mc me mf mg ml lq dq b pt pu t u).getD j 0), B) m00 51 = .inr (5, [.ref ma, .ref mb, .ref mc, .ref me, .ref mf, .int (Int32.ofInt 0), .ref mg, .ref ml, .int (Int32.ofInt 0), .int (Int32.ofInt 0), .int (Int32.ofInt 0)]) := rfl
    rw [e]
    exact hP 51 (mh, .inr (5, [.ref ma, .ref mb, .ref mc, .ref me, .ref mf, .int (Int32.ofInt 0), .ref mg, .ref ml, .int (Int32.ofInt 0), .int (Int32.ofInt 0), .int (Int32.ofInt 0)])) rfl
  · have e : jcell (kl Y, kD Y, (fun i => if i = 0 then kc Y .int else if i = 1 then kc Y .boolean else if i = 2 then kc Y (.object RX2) else if i = 3 then kc Y .long else kc Y .double), (fun j => (adr61 h mq tal r0 r1 r2 r3 r4 p0 p1 p2 w0 w1 d0 d1 s0 s1 h0 h1 mh ma mb mc me mf mg ml lq dq b pt pu t u).getD j 0), B) m00 52 = .inl (kc Y .int, 2056, .inl (fun _ => Int32.ofInt (-2))) := rfl
    rw [e]
    exact hP 52 (ma, .inl (kc Y .int, 2056, .inl (fun _ => Int32.ofInt (-2)))) rfl
  · have e : jcell (kl Y, kD Y, (fun i => if i = 0 then kc Y .int else if i = 1 then kc Y .boolean else if i = 2 then kc Y (.object RX2) else if i = 3 then kc Y .long else kc Y .double), (fun j => (adr61 h mq tal r0 r1 r2 r3 r4 p0 p1 p2 w0 w1 d0 d1 s0 s1 h0 h1 mh ma mb mc me mf mg ml lq dq b pt pu t u).getD j 0), B) m00 53 = .inl (kc Y .int, 257, .inl (fun _ => Int32.ofInt 0)) := rfl
    rw [e]
    exact hP 53 (mb, .inl (kc Y .int, 257, .inl (fun _ => Int32.ofInt 0))) rfl
  · have e : jcell (kl Y, kD Y, (fun i => if i = 0 then kc Y .int else if i = 1 then kc Y .boolean else if i = 2 then kc Y (.object RX2) else if i = 3 then kc Y .long else kc Y .double), (fun j => (adr61 h mq tal r0 r1 r2 r3 r4 p0 p1 p2 w0 w1 d0 d1 s0 s1 h0 h1 mh ma mb mc me mf mg ml lq dq b pt pu t u).getD j 0), B) m00 54 = .inl (kc Y .int, 257, .inl (fun _ => Int32.ofInt 0)) := rfl
    rw [e]
    exact hP 54 (mc, .inl (kc Y .int, 257, .inl (fun _ => Int32.ofInt 0))) rfl
  · have e : jcell (kl Y, kD Y, (fun i => if i = 0 then kc Y .int else if i = 1 then kc Y .boolean else if i = 2 then kc Y (.object RX2) else if i = 3 then kc Y .long else kc Y .double), (fun j => (adr61 h mq tal r0 r1 r2 r3 r4 p0 p1 p2 w0 w1 d0 d1 s0 s1 h0 h1 mh ma mb mc me mf mg ml lq dq b pt pu t u).getD j 0), B) m00 55 = .inl (kc Y .int, 60, .inl (fun _ => Int32.ofInt 0)) := rfl
    rw [e]
    exact hP 55 (me, .inl (kc Y .int, 60, .inl (fun _ => Int32.ofInt 0))) rfl
  · have e : jcell (kl Y, kD Y, (fun i => if i = 0 then kc Y .int else if i = 1 then kc Y .boolean else if i = 2 then kc Y (.object RX2) else if i = 3 then kc Y .long else kc Y .double), (fun j => (adr61 h mq tal r0 r1 r2 r3 r4 p0 p1 p2 w0 w1 d0 d1 s0 s1 h0 h1 mh ma mb mc me mf mg ml lq dq b pt pu t u).getD j 0), B) m00 56 = .inl (kc Y .int, 60, .inl (fun _ => Int32.ofInt 0)) := rfl
    rw [e]
    exact hP 56 (mf, .inl (kc Y .int, 60, .inl (fun _ => Int32.ofInt 0))) rfl
  · have e : jcell (kl Y, kD Y, (fun i => if i = 0 then kc Y .int else if i = 1 then kc Y .boolean else if i = 2 then kc Y (.object RX2) else if i = 3 then kc Y .long else kc Y .double), (fun j => (adr61 h mq tal r0 r1 r2 r3 r4 p0 p1 p2 w0 w1 d0 d1 s0 s1 h0 h1 mh ma mb mc me mf mg ml lq dq b pt pu t u).getD j 0), B) m00 57 = .inl (kc Y .int, 8, .inl (fun _ => Int32.ofInt 0)) := rfl
    rw [e]
    exact hP 57 (mg, .inl (kc Y .int, 8, .inl (fun _ => Int32.ofInt 0))) rfl
  · have e : jcell (kl Y, kD Y, (fun i => if i = 0 then kc Y .int else if i = 1 then kc Y .boolean else if i = 2 then kc Y (.object RX2) else if i = 3 then kc Y .long else kc Y .double), (fun j => (adr61 h mq tal r0 r1 r2 r3 r4 p0 p1 p2 w0 w1 d0 d1 s0 s1 h0 h1 mh ma mb mc me mf mg ml lq dq b pt pu t u).getD j 0), B) m00 58 = .inl (kc Y .int, 2056, .inl (fun _ => Int32.ofInt 0)) := rfl
    rw [e]
    exact hP 58 (ml, .inl (kc Y .int, 2056, .inl (fun _ => Int32.ofInt 0))) rfl
  · have e : jcell (kl Y, kD Y, (fun i => if i = 0 then kc Y .int else if i = 1 then kc Y .boolean else if i = 2 then kc Y (.object RX2) else if i = 3 then kc Y .long else kc Y .double), (fun j => (adr61 h mq tal r0 r1 r2 r3 r4 p0 p1 p2 w0 w1 d0 d1 s0 s1 h0 h1 mh ma mb mc me mf mg ml lq dq b pt pu t u).getD j 0), B) m00 59 = .inl (kc Y .long, (1, .inr (.inl (fun _ => Int64.ofInt 0)))) := rfl
    rw [e]
    exact hP 59 (lq, .inl (kc Y .long, (1, .inr (.inl (fun _ => Int64.ofInt 0))))) rfl
  · have e : jcell (kl Y, kD Y, (fun i => if i = 0 then kc Y .int else if i = 1 then kc Y .boolean else if i = 2 then kc Y (.object RX2) else if i = 3 then kc Y .long else kc Y .double), (fun j => (adr61 h mq tal r0 r1 r2 r3 r4 p0 p1 p2 w0 w1 d0 d1 s0 s1 h0 h1 mh ma mb mc me mf mg ml lq dq b pt pu t u).getD j 0), B) m00 60 = .inl (kc Y .double, (1, .inr (.inr (.inr (.inl (fun _ => UInt64.ofNat 0)))))) := rfl
    rw [e]
    exact hP 60 (dq, .inl (kc Y .double, (1, .inr (.inr (.inr (.inl (fun _ => UInt64.ofNat 0))))))) rfl
theorem CI_00 : CI m00 := by
  have hr : ∀ t : Nat, t < 19 → m00 t = fun _ => -2 := fun t ht => by funext z; exact if_pos (Or.inl ht)
  refine ⟨fun t ht => ?_, ⟨0, ?_⟩, ⟨0, by decide, ?_⟩, ?_, fun i h0 h1 => ?_⟩
  · unfold tok
    rw [hr t ht, cnt_none]
    refine ⟨rowok_none, ?_⟩
    show (if 19 + t < 19 ∨ 19 + t = 52 then (-2 : Int) else if 19 + t = 48 ∧ (0 : Int) = 1 then -2 else 0) = 0
    rw [if_neg (by omega), if_neg (by omega)]
  · exact ⟨rfl, by decide, fun z a b => absurd b (by omega)⟩
  · rfl
  · exact ⟨by decide, by decide⟩
  · exact ⟨by show (0 : Int) ≤ 0; decide, by show (0 : Int) < 8; decide⟩
theorem Rel_00 : Rel m00 := by
  have h52 : m00 52 = fun _ => -2 := by funext z; exact if_pos (Or.inr rfl)
  have hR : ∀ s : Nat, mR m00 s = fun _ => -2 := fun s => by
    funext z
    show m00 52 (257 * (s : Int) + z) = -2
    rw [h52]
  refine ⟨CI_00, ⟨fun s hs => by rw [hR]; exact rowok_none, ⟨0, by decide, rfl, fun z a b => absurd b (by omega)⟩, 0, by decide, rfl, fun i a b => absurd b (by omega)⟩, fun s hs => ?_, ⟨0, ⟨rfl, by decide, fun z a b => absurd b (by omega)⟩, ⟨by decide, rfl, fun z a b => absurd b (by omega)⟩, fun z a b => absurd b (by omega), fun z a b => absurd b (by omega)⟩, ⟨0, 0, by decide, by decide, rfl, rfl, rfl, fun i hi => absurd hi (by omega)⟩⟩
  rw [hR, show m00 s = fun _ => -2 by funext z; exact if_pos (Or.inl (by omega))]
  exact eqR_rfl _
