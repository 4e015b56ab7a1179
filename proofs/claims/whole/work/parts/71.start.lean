/-! THE LAW'S START: all cells, told as one memory -/
def m00 : jM := fun j z => if j < 19 ∨ j = 52 then -2 else if j = 48 ∧ z = 1 then -2 else 0
def adr61 (h mq tal r0 r1 r2 r3 r4 p0 p1 p2 w0 w1 d0 d1 s0 s1 h0 h1 mh ma mb mc me mf mg ml lq dq b : Nat) (pt pu t u : Nat → Nat) : List Nat := [u 0, u 1, u 2, u 3, u 4, u 5, u 6, u 7, pu 0, pu 1, pu 2, pu 3, pu 4, pu 5, pu 6, pu 7, d1, s1, h1, t 0, t 1, t 2, t 3, t 4, t 5, t 6, t 7, pt 0, pt 1, pt 2, pt 3, pt 4, pt 5, pt 6, pt 7, d0, s0, h0, h, mq, r0, r1, r2, r3, r4, p0, p1, p2, w0, w1, tal, mh, ma, mb, mc, me, mf, mg, ml, lq, dq, b]
def pos61 : List Nat := [33, 35, 37, 39, 41, 43, 45, 47, 6, 8, 10, 12, 14, 16, 18, 20, 27, 29, 31, 32, 34, 36, 38, 40, 42, 44, 46, 5, 7, 9, 11, 13, 15, 17, 19, 26, 28, 30, 48, 49, 0, 1, 2, 3, 4, 21, 22, 23, 24, 25, 50, 51, 52, 53, 54, 55, 56, 57, 58, 59, 60]
theorem pos61_inj : ∀ i : Nat, i < 61 → ∀ j : Nat, j < 61 → pos61.getD i 0 = pos61.getD j 0 → i = j := by decide +kernel
def X61 (Y : kX) (h mq tal r0 r1 r2 r3 r4 p0 p1 p2 w0 w1 d0 d1 s0 s1 h0 h1 mh ma mb mc me mf mg ml lq dq b : Nat) (pt pu t u : Nat → Nat) : jX := (kl Y, kD Y, (fun i => if i = 0 then kc Y .int else if i = 1 then kc Y .boolean else if i = 2 then kc Y (.object RX2) else if i = 3 then kc Y .long else kc Y .double), (fun j => (adr61 h mq tal r0 r1 r2 r3 r4 p0 p1 p2 w0 w1 d0 d1 s0 s1 h0 h1 mh ma mb mc me mf mg ml lq dq b pt pu t u).getD j 0), 0)
abbrev W61 (Y : kX) (h mq tal r0 r1 r2 r3 r4 p0 p1 p2 w0 w1 d0 d1 s0 s1 h0 h1 mh ma mb mc me mf mg ml lq dq : Nat) (pt pu t u : Nat → Nat) : va_W := (kwC Y h mq tal r0 r1 r2 r3 r4 p0 p1 p2 w0 w1 d0 d1 s0 s1 h0 h1 pt pu t u ++ (modC Y mh ma mb mc me mf mg ml ++ [(lq, .inl (kc Y .long, (1, .inr (.inl (fun _ => Int64.ofInt 0))))), (dq, .inl (kc Y .double, (1, .inr (.inr (.inr (.inl (fun _ => UInt64.ofNat 0)))))))]))
set_option maxHeartbeats 8000000 in
set_option maxRecDepth 100000 in
theorem at61 (Y : kX) (h mq tal r0 r1 r2 r3 r4 p0 p1 p2 w0 w1 d0 d1 s0 s1 h0 h1 mh ma mb mc me mf mg ml lq dq b : Nat) (pt pu t u : Nat → Nat) (B : Nat) (j : Nat) (hj : j < 61) : ∃ e : va_E, (W61 Y h mq tal r0 r1 r2 r3 r4 p0 p1 p2 w0 w1 d0 d1 s0 s1 h0 h1 mh ma mb mc me mf mg ml lq dq pt pu t u)[pos61.getD j 0]? = some ((adr61 h mq tal r0 r1 r2 r3 r4 p0 p1 p2 w0 w1 d0 d1 s0 s1 h0 h1 mh ma mb mc me mf mg ml lq dq b pt pu t u).getD j 0, e) := by
  rcases (show j = 0 ∨ j = 1 ∨ j = 2 ∨ j = 3 ∨ j = 4 ∨ j = 5 ∨ j = 6 ∨ j = 7 ∨ j = 8 ∨ j = 9 ∨ j = 10 ∨ j = 11 ∨ j = 12 ∨ j = 13 ∨ j = 14 ∨ j = 15 ∨ j = 16 ∨ j = 17 ∨ j = 18 ∨ j = 19 ∨ j = 20 ∨ j = 21 ∨ j = 22 ∨ j = 23 ∨ j = 24 ∨ j = 25 ∨ j = 26 ∨ j = 27 ∨ j = 28 ∨ j = 29 ∨ j = 30 ∨ j = 31 ∨ j = 32 ∨ j = 33 ∨ j = 34 ∨ j = 35 ∨ j = 36 ∨ j = 37 ∨ j = 38 ∨ j = 39 ∨ j = 40 ∨ j = 41 ∨ j = 42 ∨ j = 43 ∨ j = 44 ∨ j = 45 ∨ j = 46 ∨ j = 47 ∨ j = 48 ∨ j = 49 ∨ j = 50 ∨ j = 51 ∨ j = 52 ∨ j = 53 ∨ j = 54 ∨ j = 55 ∨ j = 56 ∨ j = 57 ∨ j = 58 ∨ j = 59 ∨ j = 60 by omega) with rfl | rfl | rfl | rfl | rfl | rfl | rfl | rfl | rfl | rfl | rfl | rfl | rfl | rfl | rfl | rfl | rfl | rfl | rfl | rfl | rfl | rfl | rfl | rfl | rfl | rfl | rfl | rfl | rfl | rfl | rfl | rfl | rfl | rfl | rfl | rfl | rfl | rfl | rfl | rfl | rfl | rfl | rfl | rfl | rfl | rfl | rfl | rfl | rfl | rfl | rfl | rfl | rfl | rfl | rfl | rfl | rfl | rfl | rfl | rfl | rfl
  all_goals exact ⟨_, rfl⟩
set_option maxHeartbeats 8000000 in
set_option maxRecDepth 100000 in
theorem cell61 (Y : kX) (h mq tal r0 r1 r2 r3 r4 p0 p1 p2 w0 w1 d0 d1 s0 s1 h0 h1 mh ma mb mc me mf mg ml lq dq b : Nat) (pt pu t u : Nat → Nat) (B : Nat) (H : Heap) (hP : va_P (kD Y) jC (W61 Y h mq tal r0 r1 r2 r3 r4 p0 p1 p2 w0 w1 d0 d1 s0 s1 h0 h1 mh ma mb mc me mf mg ml lq dq pt pu t u) H) (j : Nat) (hj : j < 61) : va_at (kD Y) jC ((adr61 h mq tal r0 r1 r2 r3 r4 p0 p1 p2 w0 w1 d0 d1 s0 s1 h0 h1 mh ma mb mc me mf mg ml lq dq b pt pu t u).getD j 0, jcell (kl Y, kD Y, (fun i => if i = 0 then kc Y .int else if i = 1 then kc Y .boolean else if i = 2 then kc Y (.object RX2) else if i = 3 then kc Y .long else kc Y .double), (fun j => (adr61 h mq tal r0 r1 r2 r3 r4 p0 p1 p2 w0 w1 d0 d1 s0 s1 h0 h1 mh ma mb mc me mf mg ml lq dq b pt pu t u).getD j 0), B) m00 j) H := by
  rcases (show j = 0 ∨ j = 1 ∨ j = 2 ∨ j = 3 ∨ j = 4 ∨ j = 5 ∨ j = 6 ∨ j = 7 ∨ j = 8 ∨ j = 9 ∨ j = 10 ∨ j = 11 ∨ j = 12 ∨ j = 13 ∨ j = 14 ∨ j = 15 ∨ j = 16 ∨ j = 17 ∨ j = 18 ∨ j = 19 ∨ j = 20 ∨ j = 21 ∨ j = 22 ∨ j = 23 ∨ j = 24 ∨ j = 25 ∨ j = 26 ∨ j = 27 ∨ j = 28 ∨ j = 29 ∨ j = 30 ∨ j = 31 ∨ j = 32 ∨ j = 33 ∨ j = 34 ∨ j = 35 ∨ j = 36 ∨ j = 37 ∨ j = 38 ∨ j = 39 ∨ j = 40 ∨ j = 41 ∨ j = 42 ∨ j = 43 ∨ j = 44 ∨ j = 45 ∨ j = 46 ∨ j = 47 ∨ j = 48 ∨ j = 49 ∨ j = 50 ∨ j = 51 ∨ j = 52 ∨ j = 53 ∨ j = 54 ∨ j = 55 ∨ j = 56 ∨ j = 57 ∨ j = 58 ∨ j = 59 ∨ j = 60 by omega) with rfl | rfl | rfl | rfl | rfl | rfl | rfl | rfl | rfl | rfl | rfl | rfl | rfl | rfl | rfl | rfl | rfl | rfl | rfl | rfl | rfl | rfl | rfl | rfl | rfl | rfl | rfl | rfl | rfl | rfl | rfl | rfl | rfl | rfl | rfl | rfl | rfl | rfl | rfl | rfl | rfl | rfl | rfl | rfl | rfl | rfl | rfl | rfl | rfl | rfl | rfl | rfl | rfl | rfl | rfl | rfl | rfl | rfl | rfl | rfl | rfl
  · exact hP 33 _ rfl
  · exact hP 35 _ rfl
  · exact hP 37 _ rfl
  · exact hP 39 _ rfl
  · exact hP 41 _ rfl
  · exact hP 43 _ rfl
  · exact hP 45 _ rfl
  · exact hP 47 _ rfl
  · exact hP 6 _ rfl
  · exact hP 8 _ rfl
  · exact hP 10 _ rfl
  · exact hP 12 _ rfl
  · exact hP 14 _ rfl
  · exact hP 16 _ rfl
  · exact hP 18 _ rfl
  · exact hP 20 _ rfl
  · exact hP 27 _ rfl
  · exact hP 29 _ rfl
  · exact hP 31 _ rfl
  · exact hP 32 _ rfl
  · exact hP 34 _ rfl
  · exact hP 36 _ rfl
  · exact hP 38 _ rfl
  · exact hP 40 _ rfl
  · exact hP 42 _ rfl
  · exact hP 44 _ rfl
  · exact hP 46 _ rfl
  · exact hP 5 _ rfl
  · exact hP 7 _ rfl
  · exact hP 9 _ rfl
  · exact hP 11 _ rfl
  · exact hP 13 _ rfl
  · exact hP 15 _ rfl
  · exact hP 17 _ rfl
  · exact hP 19 _ rfl
  · exact hP 26 _ rfl
  · exact hP 28 _ rfl
  · exact hP 30 _ rfl
  · exact hP 48 _ rfl
  · have h1 := hP 49 _ (show (W61 Y h mq tal r0 r1 r2 r3 r4 p0 p1 p2 w0 w1 d0 d1 s0 s1 h0 h1 mh ma mb mc me mf mg ml lq dq pt pu t u)[49]? = some (mq, .inl (kc Y (.object RX2), 8, .inr (.inr (.inr (.inr (refs t 8)))))) from rfl)
    refine Eq.trans (show H[mq]? = _ from h1) (congrArg some ?_)
    refine jarr_ext (c := kc Y (.object RX2)) (n := 8) (f := fun k => va_rf (refs t 8 k)) (g := fun k => va_rf (some ((adr61 h mq tal r0 r1 r2 r3 r4 p0 p1 p2 w0 w1 d0 d1 s0 s1 h0 h1 mh ma mb mc me mf mg ml lq dq b pt pu t u).getD (19 + k) 0))) (fun k hk => ?_)
    rcases (show k = 0 ∨ k = 1 ∨ k = 2 ∨ k = 3 ∨ k = 4 ∨ k = 5 ∨ k = 6 ∨ k = 7 by omega) with rfl | rfl | rfl | rfl | rfl | rfl | rfl | rfl
    all_goals rfl
  · exact hP 0 _ rfl
  · exact hP 1 _ rfl
  · exact hP 2 _ rfl
  · exact hP 3 _ rfl
  · exact hP 4 _ rfl
  · exact hP 21 _ rfl
  · have h1 := hP 22 _ (show (W61 Y h mq tal r0 r1 r2 r3 r4 p0 p1 p2 w0 w1 d0 d1 s0 s1 h0 h1 mh ma mb mc me mf mg ml lq dq pt pu t u)[22]? = some (p1, .inl (kc Y (.object RX2), 8, .inr (.inr (.inr (.inr (refs pt 8)))))) from rfl)
    refine Eq.trans (show H[p1]? = _ from h1) (congrArg some ?_)
    refine jarr_ext (c := kc Y (.object RX2)) (n := 8) (f := fun k => va_rf (refs pt 8 k)) (g := fun k => va_rf (some ((adr61 h mq tal r0 r1 r2 r3 r4 p0 p1 p2 w0 w1 d0 d1 s0 s1 h0 h1 mh ma mb mc me mf mg ml lq dq b pt pu t u).getD (27 + k) 0))) (fun k hk => ?_)
    rcases (show k = 0 ∨ k = 1 ∨ k = 2 ∨ k = 3 ∨ k = 4 ∨ k = 5 ∨ k = 6 ∨ k = 7 by omega) with rfl | rfl | rfl | rfl | rfl | rfl | rfl | rfl
    all_goals rfl
  · exact hP 23 _ rfl
  · exact hP 24 _ rfl
  · exact hP 25 _ rfl
  · exact hP 50 _ rfl
  · exact hP 51 _ rfl
  · exact hP 52 _ rfl
  · exact hP 53 _ rfl
  · exact hP 54 _ rfl
  · exact hP 55 _ rfl
  · exact hP 56 _ rfl
  · exact hP 57 _ rfl
  · exact hP 58 _ rfl
  · exact hP 59 _ rfl
  · exact hP 60 _ rfl
theorem CI_00 : CI m00 := by
  have hr : ∀ t : Nat, t < 19 → m00 t = fun _ => -2 := fun t ht => by funext z; exact if_pos (Or.inl ht)
  refine ⟨fun t ht => ?_, ⟨0, ?_⟩, ⟨0, by decide, ?_⟩, ?_, fun i h0 h1 => ?_⟩
  · unfold tok
    rw [hr t ht, cnt_none]
    refine ⟨rowok_none, ?_⟩
    show (if 19 + t < 19 ∨ 19 + t = 52 then (-2 : Int) else if 19 + t = 48 ∧ (0 : Int) = 1 then -2 else 0) = 0
    rw [if_neg (by omega), if_neg (by omega)]
  · exact ⟨rfl, by decide, fun z a b => absurd b (by omega)⟩
  · rfl
  · exact ⟨by decide, by decide⟩
  · exact ⟨by show (0 : Int) ≤ 0; decide, by show (0 : Int) < 8; decide⟩
theorem Rel_00 : Rel m00 := by
  have h52 : m00 52 = fun _ => -2 := by funext z; exact if_pos (Or.inr rfl)
  have hR : ∀ s : Nat, mR m00 s = fun _ => -2 := fun s => by
    funext z
    show m00 52 (257 * (s : Int) + z) = -2
    rw [h52]
  refine ⟨CI_00, ⟨fun s hs => by rw [hR]; exact rowok_none, ⟨0, by decide, rfl, fun z a b => absurd b (by omega)⟩, 0, by decide, rfl, fun i a b => absurd b (by omega)⟩, fun s hs => ?_, ⟨0, ⟨rfl, by decide, fun z a b => absurd b (by omega)⟩, ⟨by decide, rfl, fun z a b => absurd b (by omega)⟩, fun z a b => absurd b (by omega), fun z a b => absurd b (by omega)⟩, ⟨0, 0, by decide, by decide, rfl, rfl, rfl, fun i hi => absurd hi (by omega)⟩⟩
  rw [hR, show m00 s = fun _ => -2 by funext z; exact if_pos (Or.inl (by omega))]
  exact eqR_rfl _
