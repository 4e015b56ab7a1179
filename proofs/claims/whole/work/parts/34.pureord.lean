/-! PURE WORDS: what the class has come to, as it goes from key to key for the least common length; greatest common divisors -/
theorem jcmp_r (a b : Int) : jr (jcmp a b) := by
  unfold jcmp
  by_cases e : a < b
  · rw [if_pos e]; decide
  · rw [if_neg e]
    by_cases e2 : a = b
    · rw [if_pos e2]; decide
    · rw [if_neg e2]; decide
theorem jcmp_le {a b : Int} : jcmp a b ≤ 0 ↔ a ≤ b := by
  unfold jcmp
  by_cases e : a < b
  · rw [if_pos e]; omega
  · rw [if_neg e]
    by_cases e2 : a = b
    · rw [if_pos e2]; omega
    · rw [if_neg e2]; omega
theorem mod_sum {g s : Nat} (h : s ≤ g) : g % s + s ≤ g := by
  rw [Nat.mod_eq_sub_mod h]
  have := Nat.mod_le (g - s) s
  omega
theorem lcm_div (a b : Nat) : a / Nat.gcd a b * b = Nat.lcm a b := by
  unfold Nat.lcm
  rw [Nat.div_mul_right_comm (Nat.gcd_dvd_left a b)]
def ordI (f : Int → Int) (i : Nat) (A : Int → Int) : Prop := ain A ∧ (∀ z : Int, 0 ≤ z → z < 257 → 0 < A z → f z ≠ -2 ∧ per f (z - 1) ∣ lcmN f i) ∧ ∀ z : Int, 0 ≤ z → z < 257 → f z ≠ -2 → (0 < A z ↔ 0 < A (f z + 1))
theorem ord_0 (f : Int → Int) : ordI f 0 (fun _ => 0) := ⟨fun z _ _ => ⟨Int.le_refl _, (by decide : (0 : Int) ≤ 257)⟩, fun z _ _ h => absurd h (Int.lt_irrefl 0), fun z _ _ _ => Iff.rfl⟩
theorem ord_no {f : Int → Int} {i : Nat} {A : Int → Int} (h : ordI f i A) (he : f i = -2) : ordI f (i + 1) A := by
  obtain ⟨h1, h2, h3⟩ := h
  exact ⟨h1, fun z a b c => by rw [lcmN_no he]; exact h2 z a b c, h3⟩
theorem ord_seen {f : Int → Int} {i : Nat} {A : Int → Int} (h : ordI f i A) (hi : i < 257) (hs : 0 < A i) : ordI f (i + 1) A ∧ lcmN f (i + 1) = lcmN f i := by
  obtain ⟨h1, h2, h3⟩ := h
  obtain ⟨he, hd⟩ := h2 i (by omega) (by omega) hs
  have e : lcmN f (i + 1) = lcmN f i := by rw [lcmN_s he]; exact lcm_of_dvd hd
  exact ⟨⟨h1, fun z a b c => by rw [e]; exact h2 z a b c, h3⟩, e⟩
theorem ord_new {f : Int → Int} (hp : perm f) {i : Nat} {A : Int → Int} {k : Int} (hk : k = i - 1) (h : ordI f i A) (hi : i < 257) (he : f i ≠ -2) (hs : ¬ 0 < A i) : wkS f k A = per f k ∧ ordI f (i + 1) (wkN f k A (per f k)).2 ∧ lcmN f (i + 1) = Nat.lcm (lcmN f i) (per f k) := by
  subst hk
  obtain ⟨h1, h2, h3⟩ := h
  have hkey : tat f ((i : Int) - 1) ≠ -2 := by rw [tat_i (i := i) rfl (by omega) (by omega)]; exact he
  have hpa := per_at hp hkey
  have hz : ∀ j : Nat, A (nd f ((i : Int) - 1) j + 1) ≤ 0 := by
    intro j
    induction j with
    | zero => rw [nd_0, show (i : Int) - 1 + 1 = i by omega]; omega
    | succ j ih =>
      have hj := nd_key hp hkey j
      have hn := tat_num hj
      rw [nd_s, tat_in hn]
      rw [tat_in hn] at hj
      have := h3 (nd f ((i : Int) - 1) j + 1) (by omega) (by omega) hj
      omega
  have e2 : lcmN f (i + 1) = Nat.lcm (lcmN f i) (per f ((i : Int) - 1)) := lcmN_s he
  have hon : ∀ z : Int, 0 < (wkN f ((i : Int) - 1) A (per f ((i : Int) - 1))).2 z ↔ (0 < A z ∨ ∃ j : Nat, j < per f ((i : Int) - 1) ∧ z = nd f ((i : Int) - 1) j + 1) := by
    intro z
    by_cases e : ∃ j : Nat, j < per f ((i : Int) - 1) ∧ z = nd f ((i : Int) - 1) j + 1
    · exact ⟨fun _ => Or.inr e, fun _ => wkN_on _ e⟩
    · rw [wkN_off _ (fun j hj q => e ⟨j, hj, q⟩)]
      exact ⟨Or.inl, fun q => q.resolve_right e⟩
  refine ⟨wkS_free hp hkey (fun j _ => hz j), ⟨wkN_ain h1 _ hpa.2.2, fun z z0 z1 hm => ?_, fun z z0 z1 hn => ?_⟩, e2⟩
  · rcases (hon z).mp hm with q | ⟨j, hj, rfl⟩
    · obtain ⟨a, b⟩ := h2 z z0 z1 q
      exact ⟨a, by rw [e2]; exact Nat.dvd_trans b (Nat.dvd_lcm_left _ _)⟩
    · have hj := nd_key hp hkey j
      rw [tat_in (tat_num hj)] at hj
      refine ⟨hj, ?_⟩
      rw [e2, show nd f ((i : Int) - 1) j + 1 - 1 = nd f ((i : Int) - 1) j by omega, per_orb hp hkey j]
      exact Nat.dvd_lcm_right _ _
  · have hzk : tat f (z - 1) = f z := tat_i (i := z) rfl z0 z1
    rw [hon, hon]
    constructor
    · rintro (q | ⟨j, hj, rfl⟩)
      · exact Or.inl ((h3 z z0 z1 hn).mp q)
      · have e : f (nd f ((i : Int) - 1) j + 1) = nd f ((i : Int) - 1) (j + 1) := by
          rw [nd_s, tat_in (tat_num (nd_key hp hkey j))]
        rw [e]
        rcases Nat.lt_or_ge (j + 1) (per f ((i : Int) - 1)) with q | q
        · exact Or.inr ⟨j + 1, q, rfl⟩
        · refine Or.inr ⟨0, by omega, ?_⟩
          rw [show j + 1 = per f ((i : Int) - 1) by omega, hpa.1, nd_0]
    · rintro (q | ⟨j, hj, e⟩)
      · exact Or.inl ((h3 z z0 z1 hn).mpr q)
      · right
        rcases Nat.eq_zero_or_pos j with q | q
        · subst q
          have e1 : nd f ((i : Int) - 1) (per f ((i : Int) - 1) - 1 + 1) = f z := by
            rw [Nat.sub_add_cancel hpa.2.1, hpa.1]
            rw [nd_0] at e
            omega
          rw [nd_s] at e1
          have := tat_inj hp (nd_key hp hkey _) (e1.trans hzk.symm)
          exact ⟨per f ((i : Int) - 1) - 1, by omega, by omega⟩
        · have e1 : nd f ((i : Int) - 1) (j - 1 + 1) = f z := by
            rw [Nat.sub_add_cancel q]
            omega
          rw [nd_s] at e1
          have := tat_inj hp (nd_key hp hkey _) (e1.trans hzk.symm)
          exact ⟨j - 1, by omega, by omega⟩
