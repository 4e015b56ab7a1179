/-! STEPS: a call of the class by its wrapper, then the check's: what both tell, and that the two go on alike -/
abbrev aTI (o : Option jV) : Prop := ∃ b : Int, o = some (vI b)
abbrev aTZ (o : Option jV) : Prop := ∃ b : Int, o = some (vI b) ∧ (b = 0 ∨ b = 1)
abbrev aTL (o : Option jV) : Prop := ∃ b : Int, o = some (vL b)
abbrev aTF (o : Option jV) : Prop := ∃ b : UInt32, o = some (vF b)
abbrev aVI (o : Option jV) (v : Int) : Prop := ∃ b : Int, o = some (vI b) ∧ v = jnI b
abbrev aVZ (o : Option jV) (v : Int) : Prop := ∃ b : Int, o = some (vI b) ∧ (b = 0 ∨ b = 1) ∧ v = b
abbrev aVL (o : Option jV) (v : Int) : Prop := ∃ b : Int, o = some (vL b) ∧ v = b ∧ jrl b
abbrev aVF (o : Option jV) (v : Int) : Prop := ∃ b : UInt32, o = some (vF b) ∧ v = dI (FP.f2d b) ∧ FP.Core.val32 b ≠ .nan
theorem aI {o : Option jV} {v : Int} (h : aVI o v) : aTI o := by obtain ⟨b, h, -⟩ := h; exact ⟨b, h⟩
theorem aZ {o : Option jV} {v : Int} (h : aVZ o v) : aTZ o := by obtain ⟨b, h, h2, -⟩ := h; exact ⟨b, h, h2⟩
theorem aL {o : Option jV} {v : Int} (h : aVL o v) : aTL o := by obtain ⟨b, h, -⟩ := h; exact ⟨b, h⟩
theorem aF {o : Option jV} {v : Int} (h : aVF o v) : aTF o := by obtain ⟨b, h, -⟩ := h; exact ⟨b, h⟩
def Step (X : jX) (m : jM) (T : Option jV → Prop) (A : Option jV → Int → Prop) (r : Nat) (yW : MethodName) (cW : ByteArray) (nW : Nat) (hW : List (Nat × Nat × Nat × Nat)) (aW : List jV) (yM : MethodName) (cM : ByteArray) (nM : Nat) (rM : Option FieldType) (aM : List jV) : Prop :=
  ∃ (c : Int) (Q : jM → Prop), (0 ≤ c ∧ c ≤ 3) ∧ ConL X yW cW nW (some .int) hW 13 aW m (fun o m1 => o = some (vI c) ∧ Q m1) ∧ ∀ m1 : jM, Q m1 → Con X yM cM nM rM 8 aM m1 (fun o m2 => m2 51 2 = c ∧ Rel m2 ∧ T o ∧ (c = 0 → A o (m2 r 0)))
section STEP
variable {X : jX} {m : jM} {T : Option jV → Prop} {A : Option jV → Int → Prop} {r : Nat} {yW : MethodName} {cW : ByteArray} {nW : Nat} {hW : List (Nat × Nat × Nat × Nat)} {aW : List jV} {yM : MethodName} {cM : ByteArray} {nM : Nat} {rM : Option FieldType} {aM : List jV}
theorem CW_chk {m m0 : jM} {s : Nat} {f : Int → Int} (h : CW m s f m0) (hs : s < 8) {j : Nat} (hj : 51 ≤ j) : m0 j = m j := by
  obtain ⟨nx, h1, h2, h3, h4, h5, h6, h7, h8, h9, h10⟩ := h
  exact h10 j (by unfold garb; omega) (by omega) (by omega) (by omega) (by omega) (by omega) (by omega)
theorem stepW (hA : ∀ (o : Option jV) (v : Int), A o v → T o) (hR : Rel m) {s : Nat} (hs : s < 8) {f : Int → Int} (hf : rowok f) {ans : Int} (hc : ConL X yW cW nW (some .int) hW 13 aW m (fun o m' => o = some (vI 0) ∧ ∃ m1 : jM, CW m s f m1 ∧ m' = mset m1 59 0 ans))
    (hm : ∀ m1 : jM, MI m1 → (∀ t : Nat, mR m1 t = mR m t) → m1 55 = m 55 → m1 56 = m 56 → m1 51 0 = m 51 0 → Con X yM cM nM rM 8 aM m1 (fun o m2 => ∃ g : Int → Int, MW (mset m1 51 2 0) s g m2 ∧ eqR f g ∧ A o ans)) : Step X m T A 59 yW cW nW hW aW yM cM nM rM aM := by
  refine ⟨0, fun m1 => ∃ m0 : jM, CW m s f m0 ∧ m1 = mset m0 59 0 ans, by omega, hc, fun m1 hq => ?_⟩
  obtain ⟨m0, hw, e⟩ := hq
  have ee : ∀ j : Nat, 51 ≤ j → j ≠ 59 → m1 j = m j := fun j a b => by rw [e, mset_ne b]; exact CW_chk hw hs a
  have e52 := ee 52 (by decide) (by decide)
  have e55 := ee 55 (by decide) (by decide)
  have e56 := ee 56 (by decide) (by decide)
  have e57 := ee 57 (by decide) (by decide)
  have e51 := ee 51 (by decide) (by decide)
  have e510 : m1 51 0 = m 51 0 := by rw [e51]
  refine Con.mono (hm m1 (MI_q hR.I e52 e55 e56 e57 e510 (by rw [e51])) (fun t => mR_52 e52 t) e55 e56 e510) (fun o m2 h => ?_)
  obtain ⟨g, h1, h2, h3⟩ := h
  refine ⟨?_, Rel_W hR hs hf hw e rfl h1 h2, hA _ _ h3, fun _ => ?_⟩
  · rw [h1.2.1.2, mset_at]
  · rw [h1.1 59 (by decide) (by decide) (by decide) (by decide) (by decide) (by decide), mset_ne (by decide), e, mset_at]
    exact h3
theorem stepQ (hA : ∀ (o : Option jV) (v : Int), A o v → T o) (hR : Rel m) (hr : r = 59 ∨ r = 60) {ans : Int} (hc : ConL X yW cW nW (some .int) hW 13 aW m (fun o m' => o = some (vI 0) ∧ ∃ m1 : jM, CQ m m1 ∧ m' = mset m1 r 0 ans))
    (hm : ∀ m1 : jM, MI m1 → (∀ t : Nat, mR m1 t = mR m t) → m1 55 = m 55 → m1 56 = m 56 → m1 51 0 = m 51 0 → Con X yM cM nM rM 8 aM m1 (fun o m2 => MSm m1 m2 ∧ m2 51 2 = 0 ∧ A o ans)) : Step X m T A r yW cW nW hW aW yM cM nM rM aM := by
  refine ⟨0, fun m1 => ∃ m0 : jM, CQ m m0 ∧ m1 = mset m0 r 0 ans, by omega, hc, fun m1 hq => ?_⟩
  obtain ⟨m0, hw, e⟩ := hq
  have ee : ∀ j : Nat, 51 ≤ j → j < 59 → m1 j = m j := fun j a b => by rw [e, mset_ne (by omega)]; exact hw.2 j (by unfold garb; omega)
  have e52 := ee 52 (by decide) (by decide)
  have e55 := ee 55 (by decide) (by decide)
  have e56 := ee 56 (by decide) (by decide)
  have e57 := ee 57 (by decide) (by decide)
  have e51 := ee 51 (by decide) (by decide)
  have e510 : m1 51 0 = m 51 0 := by rw [e51]
  refine Con.mono (hm m1 (MI_q hR.I e52 e55 e56 e57 e510 (by rw [e51])) (fun t => mR_52 e52 t) e55 e56 e510) (fun o m2 h => ?_)
  obtain ⟨h1, h2, h3⟩ := h
  refine ⟨h2, Rel_QS hR hw hr e h1, hA _ _ h3, fun _ => ?_⟩
  rw [h1.1 r (by omega) (by omega) (by omega), e, mset_at]
  exact h3
theorem stepR (hA : ∀ (o : Option jV) (v : Int), A o v → T o) (hR : Rel m) {w : Nat} {K V : Int → Int} (hw60 : w ≤ 60) (hk : ∀ z : Int, 0 ≤ z → z < w → (-1 ≤ K z ∧ K z ≤ 255) ∧ (-2 ≤ V z ∧ V z ≤ 255)) {ans : Int} (hc : ConL X yW cW nW (some .int) hW 13 aW m (fun o m' => o = some (vI 0) ∧ ∃ m1 : jM, CR m w K V m1 ∧ m' = mset m1 59 0 ans))
    (hm : ∀ m1 : jM, MI m1 → m1 55 = m 55 → m1 56 = m 56 → m1 51 0 = m 51 0 → Con X yM cM nM rM 8 aM m1 (fun o m2 => ∃ K2 V2 : Int → Int, MRw m1 w K2 V2 m2 ∧ m2 51 2 = 0 ∧ eqW w K K2 ∧ eqW w V V2 ∧ A o ans)) : Step X m T A 59 yW cW nW hW aW yM cM nM rM aM := by
  refine ⟨0, fun m1 => ∃ m0 : jM, CR m w K V m0 ∧ m1 = mset m0 59 0 ans, by omega, hc, fun m1 hq => ?_⟩
  obtain ⟨m0, hw, e⟩ := hq
  have ee : ∀ j : Nat, 51 ≤ j → j ≠ 59 → m1 j = m j := fun j a b => by rw [e, mset_ne b]; exact hw.2.1 j (by unfold garb; omega) (by omega) (by omega) (by omega)
  have e52 := ee 52 (by decide) (by decide)
  have e55 := ee 55 (by decide) (by decide)
  have e56 := ee 56 (by decide) (by decide)
  have e57 := ee 57 (by decide) (by decide)
  have e51 := ee 51 (by decide) (by decide)
  have e510 : m1 51 0 = m 51 0 := by rw [e51]
  refine Con.mono (hm m1 (MI_q hR.I e52 e55 e56 e57 e510 (by rw [e51])) e55 e56 e510) (fun o m2 h => ?_)
  obtain ⟨K2, V2, h1, h2, h3, h4, h5⟩ := h
  refine ⟨h2, Rel_R hR hw60 hk hw e h1 rfl h3 h4, hA _ _ h5, fun _ => ?_⟩
  rw [h1.1 59 (by decide) (by decide) (by decide) (by decide) (by decide), e, mset_at]
  exact h5
theorem stepX (hR : Rel m) {c : Int} (hc1 : 1 ≤ c ∧ c ≤ 3) (hc : ConL X yW cW nW (some .int) hW 13 aW m (fun o m' => o = some (vI c) ∧ CQ m m'))
    (hm : ∀ m1 : jM, MI m1 → (∀ t : Nat, mR m1 t = mR m t) → m1 51 0 = m 51 0 → m1 51 1 = m 51 1 → Con X yM cM nM rM 8 aM m1 (fun o m2 => m2 = mset m1 51 2 c ∧ T o)) : Step X m T A r yW cW nW hW aW yM cM nM rM aM := by
  refine ⟨c, fun m1 => CQ m m1, by omega, hc, fun m1 hw => ?_⟩
  have ee : ∀ j : Nat, 51 ≤ j → m1 j = m j := fun j a => hw.2 j (by unfold garb; omega)
  have e51 := ee 51 (by decide)
  refine Con.mono (hm m1 (MI_q hR.I (ee 52 (by decide)) (ee 55 (by decide)) (ee 56 (by decide)) (ee 57 (by decide)) (by rw [e51]) (by rw [e51])) (fun t => mR_52 (ee 52 (by decide)) t) (by rw [e51]) (by rw [e51])) (fun o m2 h => ?_)
  exact ⟨by rw [h.1, mset_at], Rel_X hR hw h.1, h.2, fun q => absurd q (by omega)⟩
theorem xm (hR : Rel m) {c : Int} : ∀ (o : Option jV) (m' : jM), (o = some (vI c) ∧ m' = m) → (o = some (vI c) ∧ CQ m m') := fun o m' h => ⟨h.1, by rw [h.2]; exact CQ_rfl hR.C⟩
end STEP
