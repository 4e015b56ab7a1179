/-! PURE WORDS: a stirred row stays well; a walk's end; the slot that was written last -/
theorem kdX4_232 : Cond.constantDouble RX4 232 4620693217682128896 ∈ Tb := (Tb_in (tin1 (List.mem_of_getElem? (i := 163) (by decide +kernel))) (by decide +kernel))
theorem kdX5_110 : Cond.constantDouble RX5 110 4620693217682128896 ∈ Tb := (Tb_in (tin6 (List.mem_of_getElem? (i := 59) (by decide +kernel))) (by decide +kernel))
theorem stirN_ok {w : Nat} {s : Int} {K V : Int → Int} (hs : 0 ≤ s ∧ s < 2147483647) (hK : kin K (-1) w) (hV : kin V (-2) w) : ∀ n : Nat, n ≤ w → (0 ≤ (stirN w s K V n).1 ∧ (stirN w s K V n).1 < 2147483647) ∧ kin (stirN w s K V n).2.1 (-1) w ∧ kin (stirN w s K V n).2.2.1 (-2) w
  | 0, _ => by rw [stirN_0]; exact ⟨hs, hK, hV⟩
  | n + 1, h => by
    obtain ⟨h1, h2, h3⟩ := stirN_ok hs hK hV n (by omega)
    rw [stirN_s]
    generalize stirN w s K V n = q at *
    obtain ⟨z, K1, V1, c⟩ := q
    have hz := tmod_b (a := 48271 * z) (b := 2147483647) (by have : 0 ≤ z := h1.1; omega) (by decide)
    have hj := tmod_b (a := (48271 * z).tmod 2147483647) (b := (w : Int)) hz.1 (by omega)
    by_cases e : ((48271 * z).tmod 2147483647).tmod w + 1 < w ∧ K1 (((48271 * z).tmod 2147483647).tmod w) ≠ K1 (((48271 * z).tmod 2147483647).tmod w + 1)
    · rw [stir_go rfl rfl e]
      exact ⟨hz, kin_swp h2 hj.1 e.1, kin_swp h3 hj.1 e.1⟩
    · rw [stir_no rfl rfl e]
      exact ⟨hz, h2, h3⟩
theorem nd_b {f : Int → Int} (hf : rowok f) {k : Int} (hk : num k) : ∀ n : Nat, -2 ≤ nd f k n ∧ nd f k n ≤ 255
  | 0 => by rw [nd_0]; unfold num at hk; omega
  | n + 1 => by rw [nd_s]; exact tat_b hf _
theorem ring_eq {f A : Int → Int} {x b0 b1 b2 : Int} {N : Nat} (h0 : b0 = N) (h1 : b1 = x) (h2 : b2 = if tat f x = -2 then 0 else 1) : (if b2 ≠ 0 ∧ (-1 ≤ b1 ∧ b1 ≤ 255) ∧ 0 < A (b1 + 1) then b0 - A (b1 + 1) + 1 else 0) = if tat f x ≠ -2 ∧ 0 < A (x + 1) then (N : Int) - A (x + 1) + 1 else 0 := by
  subst h0; subst h1; subst h2
  by_cases e : tat f b1 = -2
  · rw [if_pos e, if_neg (fun q => q.1 rfl), if_neg (fun q => q.1 e)]
  · rw [if_neg e]
    by_cases e2 : 0 < A (b1 + 1)
    · rw [if_pos ⟨by decide, tat_num e, e2⟩, if_pos ⟨e, e2⟩]
    · rw [if_neg (fun q => e2 q.2.2), if_neg (fun q => e2 q.2)]
theorem CW_set {m m1 m2 : jM} {s nx : Nat} (hs : s < 8) (hq : CQ m m1) (hn : nx < 8) (h0 : m 45 0 = nx) {f : Int → Int} (hf : eqR (m1 16) f) (he : m2 = tset (keepM m1 s s nx) s (m1 16)) : CW m s f m2 := by
  rw [he]
  refine CW_eq (CW_CQ hs hq (CW_tset hq.1 hs hn ?_ (hq.1.1 16 (by omega)).1)) hf
  rw [hq.2 45 (by unfold garb; omega)]
  exact h0
theorem wk_row {m : jM} {f : Int → Int} {k : Int} : wkR (mrow m 49 (fun _ => 0)) f k = mset (wkM (mrow m 49 (fun _ => 0)) (per f k) (wkN f k (fun _ => 0) (per f k))) 48 2 (if tat f (wkN f k (fun _ => 0) (per f k)).1 = -2 then 0 else 1) := by
  have h : wkS f k ((mrow m 49 (fun _ => 0)) 49) = per f k := by rw [mrow_at]; rfl
  rw [wkR_eq h, mrow_at]
theorem wk_CQ {m m1 : jM} (hC : CI m) {f : Int → Int} {k : Int} (h : m1 = wkR (mrow m 49 (fun _ => 0)) f k) : CQ m m1 := by
  rw [wk_row] at h
  have ho : ∀ j : Nat, j ≠ 48 → j ≠ 49 → m1 j = m j := fun j a b => by rw [h, mset_ne a, wkM_ne a b, mrow_ne b]
  refine CQ_of hC (fun j hj => ho j (fun q => hj (by unfold garb; omega)) (fun q => hj (by unfold garb; omega))) (fun t t1 t2 => ?_)
  unfold tok
  rw [ho t (by omega) (by omega), ho (19 + t) (by omega) (by omega)]
  exact hC.1 t t2
theorem wk_len {m m1 : jM} {f : Int → Int} {k : Int} (h : m1 = wkR (mrow m 49 (fun _ => 0)) f k) : m1 48 0 = per f k := by
  rw [h, wk_row, mset_off (by decide), wkM_48_0]
theorem wk_end {m m1 : jM} {f : Int → Int} {k : Int} (h : m1 = wkR (mrow m 49 (fun _ => 0)) f k) : m1 48 1 = (wkN f k (fun _ => 0) (per f k)).1 := by
  rw [h, wk_row, mset_off (by decide), wkM_48_1]
theorem wk_key {m m1 : jM} {f : Int → Int} {k : Int} (h : m1 = wkR (mrow m 49 (fun _ => 0)) f k) : m1 48 2 = if tat f (wkN f k (fun _ => 0) (per f k)).1 = -2 then 0 else 1 := by
  rw [h, wk_row, mset_at]
theorem wk_marks {m m1 : jM} {f : Int → Int} {k : Int} (h : m1 = wkR (mrow m 49 (fun _ => 0)) f k) : m1 49 = (wkN f k (fun _ => 0) (per f k)).2 := by
  rw [h, wk_row, mset_ne (by decide), wkM_49]
theorem ain_0 : ain (fun _ => 0) := fun _ _ _ => ⟨Int.le_refl _, (by decide : (0 : Int) ≤ 257)⟩
theorem nthK_b {f : Int → Int} {p : Int} (hp : 0 ≤ p ∧ p < cnt f) : -1 ≤ nthK f p ∧ nthK f p ≤ 255 := by
  have key : ∀ n : Nat, n ≤ 257 → p < sumN (fun z => pres (f z)) n → ∃ i : Nat, i < 257 ∧ f i ≠ -2 ∧ sumN (fun z => pres (f z)) i = p := by
    intro n
    induction n with
    | zero => intro _ h; rw [sumN_0] at h; omega
    | succ n ih =>
      intro hn h
      by_cases e : p < sumN (fun z => pres (f z)) n
      · exact ih (by omega) e
      · rw [sumN_s] at h
        have hb := pres_b (f n)
        refine ⟨n, by omega, fun q => ?_, by omega⟩
        have : pres (f n) = 0 := if_pos q
        omega
  obtain ⟨i, h1, h2, h3⟩ := key 257 (by omega) hp.2
  rw [nthK_eq h1 h2 h3]
  omega
