/-! PURE WORDS: the least common length, key by key; it is smaller than 2^63 -/
noncomputable def lcmN (f : Int → Int) (n : Nat) : Nat := itN (fun i L => if f i = -2 then L else Nat.lcm L (per f ((i : Int) - 1))) 1 n
theorem lcmN_0 (f : Int → Int) : lcmN f 0 = 1 := itN_0 _ _
theorem lcmN_no {f : Int → Int} {n : Nat} (h : f n = -2) : lcmN f (n + 1) = lcmN f n := by
  unfold lcmN
  rw [itN_s, if_pos h]
theorem lcmN_s {f : Int → Int} {n : Nat} (h : ¬ f n = -2) : lcmN f (n + 1) = Nat.lcm (lcmN f n) (per f ((n : Int) - 1)) := by
  unfold lcmN
  rw [itN_s, if_neg h]
theorem lcm_of_dvd {a b : Nat} (h : b ∣ a) : Nat.lcm a b = a := Nat.dvd_antisymm (Nat.lcm_dvd (Nat.dvd_refl a) h) (Nat.dvd_lcm_left a b)
theorem lcmN_pos {f : Int → Int} (h : perm f) : ∀ n : Nat, n ≤ 257 → 1 ≤ lcmN f n
  | 0, _ => by rw [lcmN_0]; exact Nat.le_refl _
  | n + 1, hn => by
    have ih := lcmN_pos h n (by omega)
    by_cases e : f n = -2
    · rw [lcmN_no e]; exact ih
    · rw [lcmN_s e]
      have hk : tat f ((n : Int) - 1) ≠ -2 := by rw [tat_i (i := n) rfl (by omega) (by omega)]; exact e
      exact Nat.lcm_pos ih (per_at h hk).2.1
/-- the lengths of the keys before one -/
def lenU (f : Int → Int) (n l : Int) : Prop := ∃ z : Int, 0 ≤ z ∧ z < n ∧ f z ≠ -2 ∧ (per f (z - 1) : Int) = l
theorem len_dvd {f : Int → Int} {l : Nat} : ∀ n : Nat, lenU f n l → l ∣ lcmN f n
  | 0, h => by obtain ⟨z, h0, h1, _⟩ := h; exact absurd h1 (by omega)
  | n + 1, h => by
    obtain ⟨z, h0, h1, h2, h3⟩ := h
    by_cases e : f n = -2
    · rw [lcmN_no e]
      refine len_dvd n ⟨z, h0, ?_, h2, h3⟩
      rcases Int.lt_or_le z n with q | q
      · exact q
      · obtain rfl : z = n := by omega
        exact absurd e h2
    · rw [lcmN_s e]
      rcases Int.lt_or_le z n with q | q
      · exact Nat.dvd_trans (len_dvd n ⟨z, h0, q, h2, h3⟩) (Nat.dvd_lcm_left _ _)
      · obtain rfl : z = n := by omega
        rw [show l = per f ((n : Int) - 1) by omega]
        exact Nat.dvd_lcm_right _ _
def cutL (l : Nat) : Nat := (if l % 2 = 0 then l / 2 else l) / (if l % 3 = 0 then 3 else 1)
def expL (l : Nat) : Nat := (cutL l ^ 11).log2 + 1
def expM (l : Nat) : Nat := if cutL l ≤ 1 then 0 else expL l
theorem cut_exp (l : Nat) : cutL l ^ 11 ≤ 2 ^ expM l := by
  unfold expM
  by_cases e : cutL l ≤ 1
  · rw [if_pos e]
    exact Nat.le_trans (Nat.pow_le_pow_left e 11) (by decide)
  · rw [if_neg e]
    exact Nat.le_of_lt Nat.lt_log2_self
theorem exp_sum : sumN (fun l => ((expM l.toNat - 2 * l.toNat : Nat) : Int)) 258 = 113 := by
  rw [sumN_eq]
  decide +kernel
def ev (d L : Nat) : Nat := if L % d = 0 then 1 else 0
/-- what a length adds to what is there -/
theorem quo_le {L l : Nat} (hl : 1 ≤ l) : l / Nat.gcd L l ≤ cutL l * (2 ^ (ev 2 (Nat.lcm L l) - ev 2 L) * 3 ^ (ev 3 (Nat.lcm L l) - ev 3 L)) := by
  have hg : 1 ≤ Nat.gcd L l := Nat.gcd_pos_of_pos_right _ hl
  have hL : ∀ d : Nat, d ∣ L → d ∣ Nat.lcm L l := fun d h => Nat.dvd_trans h (Nat.dvd_lcm_left _ _)
  have hl2 : ∀ d : Nat, d ∣ l → d ∣ Nat.lcm L l := fun d h => Nat.dvd_trans h (Nat.dvd_lcm_right _ _)
  have hgd : ∀ d : Nat, d ∣ L → d ∣ l → d ∣ Nat.gcd L l := fun d h1 h2 => Nat.dvd_gcd h1 h2
  have q1 : l / Nat.gcd L l ≤ l / 1 := Nat.div_le_div_left hg (by decide)
  rw [Nat.div_one] at q1
  have ev1 : ∀ {d n : Nat}, d ∣ n → ev d n = 1 := fun h => if_pos (Nat.mod_eq_zero_of_dvd h)
  have ev0 : ∀ {d n : Nat}, ¬ d ∣ n → ev d n = 0 := fun h => if_neg (fun e => h (Nat.dvd_of_mod_eq_zero e))
  have p2 : ev 2 (Nat.lcm L l) - ev 2 L = 0 ∨ ev 2 (Nat.lcm L l) - ev 2 L = 1 := by unfold ev; split <;> split <;> omega
  have p3 : ev 3 (Nat.lcm L l) - ev 3 L = 0 ∨ ev 3 (Nat.lcm L l) - ev 3 L = 1 := by unfold ev; split <;> split <;> omega
  have a2 : ¬ 2 ∣ L → 2 ∣ l → ev 2 (Nat.lcm L l) - ev 2 L = 1 := fun h1 h2 => by rw [ev1 (hl2 2 h2), ev0 h1]
  have a3 : ¬ 3 ∣ L → 3 ∣ l → ev 3 (Nat.lcm L l) - ev 3 L = 1 := fun h1 h2 => by rw [ev1 (hl2 3 h2), ev0 h1]
  have d2 : 2 ∣ L → 2 ∣ l → 2 ≤ Nat.gcd L l := fun h1 h2 => Nat.le_of_dvd hg (hgd 2 h1 h2)
  have d3 : 3 ∣ L → 3 ∣ l → 3 ≤ Nat.gcd L l := fun h1 h2 => Nat.le_of_dvd hg (hgd 3 h1 h2)
  have d6 : 2 ∣ L → 2 ∣ l → 3 ∣ L → 3 ∣ l → 6 ≤ Nat.gcd L l := fun h1 h2 h3 h4 => by
    have := Nat.mod_eq_zero_of_dvd (hgd 2 h1 h2)
    have := Nat.mod_eq_zero_of_dvd (hgd 3 h3 h4)
    omega
  have m2 : ∀ n : Nat, 2 ∣ n ↔ n % 2 = 0 := fun n => ⟨Nat.mod_eq_zero_of_dvd, Nat.dvd_of_mod_eq_zero⟩
  have m3 : ∀ n : Nat, 3 ∣ n ↔ n % 3 = 0 := fun n => ⟨Nat.mod_eq_zero_of_dvd, Nat.dvd_of_mod_eq_zero⟩
  have g2 : ∀ d : Nat, 0 < d → d ≤ Nat.gcd L l → l / Nat.gcd L l ≤ l / d := fun d h0 h => Nat.div_le_div_left h h0
  have pw : ∀ x : Nat, 1 ≤ 2 ^ x := fun x => Nat.one_le_two_pow
  have pw3 : ∀ x : Nat, 1 ≤ 3 ^ x := fun x => Nat.pow_pos (by decide)
  unfold cutL
  generalize l / Nat.gcd L l = q at *
  by_cases h2 : 2 ∣ l
  · by_cases h3 : 3 ∣ l
    · rw [if_pos ((m2 l).mp h2), if_pos ((m3 l).mp h3)]
      have e2 := (m2 l).mp h2
      have e3 := (m3 l).mp h3
      by_cases b2 : 2 ∣ L
      · by_cases b3 : 3 ∣ L
        · have := g2 6 (by decide) (d6 b2 h2 b3 h3)
          have h1 : l / 2 / 3 * 1 ≤ l / 2 / 3 * (2 ^ (ev 2 (Nat.lcm L l) - ev 2 L) * 3 ^ (ev 3 (Nat.lcm L l) - ev 3 L)) := Nat.mul_le_mul_left _ (Nat.mul_pos (pw _) (pw3 _))
          omega
        · have := g2 2 (by decide) (d2 b2 h2)
          rw [a3 b3 h3]
          have h1 : l / 2 / 3 * (1 * 3 ^ 1) ≤ l / 2 / 3 * (2 ^ (ev 2 (Nat.lcm L l) - ev 2 L) * 3 ^ 1) := Nat.mul_le_mul_left _ (Nat.mul_le_mul_right _ (pw _))
          omega
      · by_cases b3 : 3 ∣ L
        · have := g2 3 (by decide) (d3 b3 h3)
          rw [a2 b2 h2]
          have h1 : l / 2 / 3 * (2 ^ 1 * 1) ≤ l / 2 / 3 * (2 ^ 1 * 3 ^ (ev 3 (Nat.lcm L l) - ev 3 L)) := Nat.mul_le_mul_left _ (Nat.mul_le_mul_left _ (pw3 _))
          omega
        · rw [a2 b2 h2, a3 b3 h3]
          omega
    · rw [if_pos ((m2 l).mp h2), if_neg (fun e => h3 ((m3 l).mpr e))]
      have e2 := (m2 l).mp h2
      by_cases b2 : 2 ∣ L
      · have := g2 2 (by decide) (d2 b2 h2)
        have h1 : l / 2 / 1 * 1 ≤ l / 2 / 1 * (2 ^ (ev 2 (Nat.lcm L l) - ev 2 L) * 3 ^ (ev 3 (Nat.lcm L l) - ev 3 L)) := Nat.mul_le_mul_left _ (Nat.mul_pos (pw _) (pw3 _))
        omega
      · rw [a2 b2 h2]
        have h1 : l / 2 / 1 * (2 ^ 1 * 1) ≤ l / 2 / 1 * (2 ^ 1 * 3 ^ (ev 3 (Nat.lcm L l) - ev 3 L)) := Nat.mul_le_mul_left _ (Nat.mul_le_mul_left _ (pw3 _))
        omega
  · by_cases h3 : 3 ∣ l
    · rw [if_neg (fun e => h2 ((m2 l).mpr e)), if_pos ((m3 l).mp h3)]
      have e3 := (m3 l).mp h3
      by_cases b3 : 3 ∣ L
      · have := g2 3 (by decide) (d3 b3 h3)
        have h1 : l / 3 * 1 ≤ l / 3 * (2 ^ (ev 2 (Nat.lcm L l) - ev 2 L) * 3 ^ (ev 3 (Nat.lcm L l) - ev 3 L)) := Nat.mul_le_mul_left _ (Nat.mul_pos (pw _) (pw3 _))
        omega
      · rw [a3 b3 h3]
        have h1 : l / 3 * (1 * 3 ^ 1) ≤ l / 3 * (2 ^ (ev 2 (Nat.lcm L l) - ev 2 L) * 3 ^ 1) := Nat.mul_le_mul_left _ (Nat.mul_le_mul_right _ (pw _))
        omega
    · rw [if_neg (fun e => h2 ((m2 l).mpr e)), if_neg (fun e => h3 ((m3 l).mpr e))]
      have h1 : l / 1 * 1 ≤ l / 1 * (2 ^ (ev 2 (Nat.lcm L l) - ev 2 L) * 3 ^ (ev 3 (Nat.lcm L l) - ev 3 L)) := Nat.mul_le_mul_left _ (Nat.mul_pos (pw _) (pw3 _))
      omega
noncomputable def expS (f : Int → Int) (n : Int) : Int := sumN (fun l => bI (lenU f n l) * (expM l.toNat : Int)) 258
theorem len_step {f : Int → Int} {n : Nat} (hn : ¬ f n = -2) (l : Int) : lenU f ((n + 1 : Nat) : Int) l ↔ (l = (per f ((n : Int) - 1) : Int) ∨ lenU f n l) := by
  constructor
  · rintro ⟨z, h0, h1, h2, h3⟩
    rcases Int.lt_or_le z n with q | q
    · exact Or.inr ⟨z, h0, q, h2, h3⟩
    · obtain rfl : z = n := by omega
      exact Or.inl h3.symm
  · rintro (rfl | ⟨z, h0, h1, h2, h3⟩)
    · exact ⟨n, by omega, by omega, hn, rfl⟩
    · exact ⟨z, h0, by omega, h2, h3⟩
theorem len_none {f : Int → Int} {n : Nat} (hn : f n = -2) (l : Int) : lenU f ((n + 1 : Nat) : Int) l ↔ lenU f n l := by
  constructor
  · rintro ⟨z, h0, h1, h2, h3⟩
    refine ⟨z, h0, ?_, h2, h3⟩
    rcases Int.lt_or_le z n with q | q
    · exact q
    · obtain rfl : z = n := by omega
      exact absurd hn h2
  · rintro ⟨z, h0, h1, h2, h3⟩
    exact ⟨z, h0, by omega, h2, h3⟩
theorem bI_iff {P Q : Prop} (h : P ↔ Q) : bI P = bI Q := by rw [propext h]
theorem exp_same {f : Int → Int} {n k : Int} (h : ∀ l : Int, lenU f k l ↔ lenU f n l) : expS f k = expS f n := by
  unfold expS
  exact sumN_congr 258 (fun l _ _ => by rw [bI_iff (h l)])
theorem exp_new {f : Int → Int} (h : perm f) {n : Nat} (hn : n < 257) (he : ¬ f n = -2) (hu : ¬ lenU f n (per f ((n : Int) - 1))) : expS f ((n + 1 : Nat) : Int) = expS f n + expM (per f ((n : Int) - 1)) := by
  have hk : tat f ((n : Int) - 1) ≠ -2 := by rw [tat_i (i := n) rfl (by omega) (by omega)]; exact he
  have hp := per_at h hk
  have h1 := sumN_set (f := fun l => bI (lenU f n l) * (expM l.toNat : Int)) (i := (per f ((n : Int) - 1) : Int)) (v := expM (per f ((n : Int) - 1))) 258 (by omega) (by omega)
  rw [bI_f hu, Int.zero_mul] at h1
  unfold expS
  rw [show sumN (fun l => bI (lenU f n l) * (expM l.toNat : Int)) 258 + (expM (per f ((n : Int) - 1)) : Int) = sumN (fun l => bI (lenU f n l) * (expM l.toNat : Int)) 258 + (expM (per f ((n : Int) - 1)) : Int) - 0 by omega, ← h1]
  refine sumN_congr 258 (fun l _ _ => ?_)
  show bI (lenU f ((n + 1 : Nat) : Int) l) * _ = if l = (per f ((n : Int) - 1) : Int) then _ else _
  by_cases e : l = (per f ((n : Int) - 1) : Int)
  · rw [if_pos e, bI_t ((len_step he l).mpr (Or.inl e)), Int.one_mul, e, Int.toNat_natCast]
  · rw [if_neg e, bI_iff ((len_step he l).trans ⟨fun q => q.resolve_left e, Or.inr⟩)]
theorem pow_step {L q c a b e w : Nat} (hL : L ^ 11 ≤ 2 ^ e) (hc : c ^ 11 ≤ 2 ^ w) (hq : q ≤ c * (2 ^ a * 3 ^ b)) : (L * q) ^ 11 ≤ 2 ^ (e + (w + (11 * a + 18 * b))) := by
  have h3 : (3 ^ b) ^ 11 ≤ 2 ^ (18 * b) := by
    rw [← Nat.pow_mul, Nat.mul_comm b 11, Nat.pow_mul, Nat.pow_mul]
    exact Nat.pow_le_pow_left (by decide) b
  have h2 : (2 ^ a) ^ 11 = 2 ^ (11 * a) := by rw [← Nat.pow_mul, Nat.mul_comm]
  rw [Nat.mul_pow, Nat.pow_add, Nat.pow_add, Nat.pow_add]
  refine Nat.mul_le_mul hL (Nat.le_trans (Nat.pow_le_pow_left hq 11) ?_)
  rw [Nat.mul_pow, Nat.mul_pow, h2]
  exact Nat.mul_le_mul hc (Nat.mul_le_mul_left _ h3)
theorem ev_mono {d L M : Nat} (h : L ∣ M) : ev d L ≤ ev d M := by
  unfold ev
  by_cases e : L % d = 0
  · rw [if_pos e, if_pos (Nat.mod_eq_zero_of_dvd (Nat.dvd_trans (Nat.dvd_of_mod_eq_zero e) h))]
    exact Nat.le_refl _
  · rw [if_neg e]; exact Nat.zero_le _
theorem lcm_exp {f : Int → Int} (h : perm f) : ∀ n : Nat, n ≤ 257 → ∃ e : Nat, (e : Int) = expS f n + 11 * (ev 2 (lcmN f n) : Int) + 18 * (ev 3 (lcmN f n) : Int) ∧ lcmN f n ^ 11 ≤ 2 ^ e
  | 0, _ => by
    have h0 : expS f ((0 : Nat) : Int) = 0 := by
      unfold expS
      rw [sumN_congr (g := fun _ => 0) 258 (fun l _ _ => by rw [bI_f (fun ⟨z, h0, h1, _⟩ => absurd h1 (by omega)), Int.zero_mul]), sumN_zero]
    refine ⟨0, ?_, ?_⟩
    · rw [h0, lcmN_0]
      rfl
    · rw [lcmN_0]
      decide
  | n + 1, hn => by
    obtain ⟨e, h1, h2⟩ := lcm_exp h n (by omega)
    by_cases hf : f n = -2
    · refine ⟨e, ?_, ?_⟩
      · rw [exp_same (len_none hf), lcmN_no hf]; exact h1
      · rw [lcmN_no hf]; exact h2
    · have hk : tat f ((n : Int) - 1) ≠ -2 := by rw [tat_i (i := n) rfl (by omega) (by omega)]; exact hf
      have hp := per_at h hk
      by_cases hu : lenU f n (per f ((n : Int) - 1))
      · have hd := lcm_of_dvd (len_dvd n hu)
        refine ⟨e, ?_, ?_⟩
        · rw [exp_same (fun l => (len_step hf l).trans ⟨fun q => q.elim (fun r => by rw [r]; exact hu) id, Or.inr⟩), lcmN_s hf, hd]; exact h1
        · rw [lcmN_s hf, hd]; exact h2
      · have hq := quo_le (L := lcmN f n) hp.2.1
        have e2 := ev_mono (d := 2) (Nat.dvd_lcm_left (lcmN f n) (per f ((n : Int) - 1)))
        have e3 := ev_mono (d := 3) (Nat.dvd_lcm_left (lcmN f n) (per f ((n : Int) - 1)))
        have hs := pow_step h2 (cut_exp (per f ((n : Int) - 1))) hq
        refine ⟨e + (expM (per f ((n : Int) - 1)) + (11 * (ev 2 (Nat.lcm (lcmN f n) (per f ((n : Int) - 1))) - ev 2 (lcmN f n)) + 18 * (ev 3 (Nat.lcm (lcmN f n) (per f ((n : Int) - 1))) - ev 3 (lcmN f n)))), ?_, ?_⟩
        · rw [exp_new h (by omega) hf hu, lcmN_s hf]
          omega
        · rw [lcmN_s hf]
          refine Nat.le_trans (Nat.le_of_eq ?_) hs
          unfold Nat.lcm
          rw [Nat.mul_div_assoc _ (Nat.gcd_dvd_right _ _)]
/-- all lengths together, each once -/
theorem len_sum {f : Int → Int} (h : perm f) {n : Int} (hn : n ≤ 257) : sumN (fun l => bI (lenU f n l) * l) 258 ≤ 257 := by
  have h1 : ∀ l : Int, 0 ≤ l → l < 258 → bI (lenU f n l) * l ≤ sumN (fun z => bI (f z ≠ -2 ∧ (per f (z - 1) : Int) = l)) 257 := by
    intro l l0 l1
    by_cases e : lenU f n l
    · rw [bI_t e, Int.one_mul]
      obtain ⟨z, z0, z1, z2, z3⟩ := e
      have hk : tat f (z - 1) ≠ -2 := by rw [tat_i (i := z) rfl (by omega) (by omega)]; exact z2
      have hm := per_many h hk
      rw [← z3]
      refine Int.le_trans hm (Int.le_of_eq (sumN_congr 257 (fun w _ _ => bI_iff ?_)))
      exact ⟨fun q => ⟨q.1, by omega⟩, fun q => ⟨q.1, by omega⟩⟩
    · rw [bI_f e, Int.zero_mul]
      have h2 := sumN_mono (f := fun z => bI (f z ≠ -2 ∧ (per f (z - 1) : Int) = l)) (fun z => by have := bI_c (f z ≠ -2 ∧ (per f (z - 1) : Int) = l); show 0 ≤ bI (f z ≠ -2 ∧ (per f (z - 1) : Int) = l); omega) 0 257 (by omega)
      rw [sumN_0] at h2
      exact h2
  have h2 : sumN (fun l => sumN (fun z => bI (f z ≠ -2 ∧ (per f (z - 1) : Int) = l)) 257) 258 ≤ 257 := by
    rw [sumN_swap (g := fun z l => bI (f z ≠ -2 ∧ (per f (z - 1) : Int) = l)) 257 258]
    have hb := sumN_bound (f := fun z => sumN (fun l => bI (f z ≠ -2 ∧ (per f (z - 1) : Int) = l)) 258) (a := 0) (b := 1) 257 (fun z z0 z1 => by
      show 0 ≤ sumN (fun l => bI (f z ≠ -2 ∧ (per f (z - 1) : Int) = l)) 258 ∧ sumN (fun l => bI (f z ≠ -2 ∧ (per f (z - 1) : Int) = l)) 258 ≤ 1
      by_cases e : f z = -2
      · rw [sumN_congr (g := fun _ => 0) 258 (fun l _ _ => bI_f (fun q => q.1 e)), sumN_zero]
        omega
      · have hk : tat f (z - 1) ≠ -2 := by rw [tat_i (i := z) rfl (by omega) (by omega)]; exact e
        have hp := per_at h hk
        rw [sumN_one (i := (per f (z - 1) : Int)) (by omega) 258 (by omega) (fun l _ _ q => bI_f (fun r => q r.2.symm)), bI_t ⟨e, rfl⟩]
        omega)
    omega
  have h3 := sumN_bound (f := fun l => sumN (fun z => bI (f z ≠ -2 ∧ (per f (z - 1) : Int) = l)) 257 + -(bI (lenU f n l) * l)) (a := 0) (b := 100000) 258 (fun l l0 l1 => by
    have := h1 l l0 l1
    have hb := bI_c (lenU f n l)
    have hx := sumN_bound (f := fun z => bI (f z ≠ -2 ∧ (per f (z - 1) : Int) = l)) (a := 0) (b := 1) 257 (fun z _ _ => by have := bI_c (f z ≠ -2 ∧ (per f (z - 1) : Int) = l); show 0 ≤ bI (f z ≠ -2 ∧ (per f (z - 1) : Int) = l) ∧ bI (f z ≠ -2 ∧ (per f (z - 1) : Int) = l) ≤ 1; omega)
    show 0 ≤ sumN (fun z => bI (f z ≠ -2 ∧ (per f (z - 1) : Int) = l)) 257 + -(bI (lenU f n l) * l) ∧ sumN (fun z => bI (f z ≠ -2 ∧ (per f (z - 1) : Int) = l)) 257 + -(bI (lenU f n l) * l) ≤ 100000
    rcases hb with q | q <;> rw [q] at this ⊢ <;> omega)
  rw [sumN_add] at h3
  have h5 := sumN_add (f := fun l => -(bI (lenU f n l) * l)) (g := fun l => bI (lenU f n l) * l) 258
  rw [sumN_congr (g := fun _ => 0) 258 (fun l _ _ => by show -(bI (lenU f n l) * l) + bI (lenU f n l) * l = 0; omega), sumN_zero] at h5
  omega
theorem exp_le {f : Int → Int} (h : perm f) {n : Int} (hn : n ≤ 257) : expS f n ≤ 627 := by
  have h1 := len_sum h hn
  have h2 := exp_sum
  have h3 := sumN_bound (f := fun l => (bI (lenU f n l) * l + bI (lenU f n l) * l) + (((expM l.toNat - 2 * l.toNat : Nat) : Int) + -(bI (lenU f n l) * (expM l.toNat : Int)))) (a := 0) (b := 1000000000) 258 (fun l l0 l1 => by
    have hb := bI_c (lenU f n l)
    show 0 ≤ (bI (lenU f n l) * l + bI (lenU f n l) * l) + (((expM l.toNat - 2 * l.toNat : Nat) : Int) + -(bI (lenU f n l) * (expM l.toNat : Int))) ∧ (bI (lenU f n l) * l + bI (lenU f n l) * l) + (((expM l.toNat - 2 * l.toNat : Nat) : Int) + -(bI (lenU f n l) * (expM l.toNat : Int))) ≤ 1000000000
    have hz := sumN_ge1 (f := fun l => ((expM l.toNat - 2 * l.toNat : Nat) : Int)) (fun z => Int.natCast_nonneg _) l0 258 l1
    have hz2 : ((expM l.toNat - 2 * l.toNat : Nat) : Int) ≤ sumN (fun l => ((expM l.toNat - 2 * l.toNat : Nat) : Int)) 258 := hz
    rcases hb with q | q <;> rw [q] <;> omega)
  rw [sumN_add, sumN_add, sumN_add] at h3
  have h5 := sumN_add (f := fun l => -(bI (lenU f n l) * (expM l.toNat : Int))) (g := fun l => bI (lenU f n l) * (expM l.toNat : Int)) 258
  rw [sumN_congr (g := fun _ => 0) 258 (fun l _ _ => by show -(bI (lenU f n l) * (expM l.toNat : Int)) + bI (lenU f n l) * (expM l.toNat : Int) = 0; omega), sumN_zero] at h5
  unfold expS
  omega
theorem lcm_small {f : Int → Int} (h : perm f) {n : Nat} (hn : n ≤ 257) : lcmN f n < 9223372036854775808 := by
  obtain ⟨e, h1, h2⟩ := lcm_exp h n hn
  have h3 := exp_le h (n := n) (by omega)
  have h4 : ev 2 (lcmN f n) ≤ 1 := by unfold ev; split <;> omega
  have h5 : ev 3 (lcmN f n) ≤ 1 := by unfold ev; split <;> omega
  rcases Nat.lt_or_ge (lcmN f n) 9223372036854775808 with q | q
  · exact q
  · have h6 := Nat.pow_le_pow_left q 11
    have h7 : 2 ^ e ≤ 2 ^ 656 := Nat.pow_le_pow_right (by decide) (by omega)
    have h8 : ¬ (9223372036854775808 ^ 11 ≤ 2 ^ 656) := by decide +kernel
    exact absurd (Nat.le_trans h6 (Nat.le_trans h2 h7)) h8
