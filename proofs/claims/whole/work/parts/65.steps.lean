set_option maxHeartbeats 4000000 in
set_option maxRecDepth 100000 in
theorem st_put (X : jX) (hX : jxok X) (s : Int) (js : jr s) (k : Int) (jk : jr k) (v : Int) (jv : jr v) (m : jM) (hR : Rel m) : Step X m aTI aVI 59 yL_put cL_put 6 [(0, 12, 15, 13), (0, 12, 19, 15)] [vR 2 38, vI s, vI k, vI v, vR 2 59] yX5_put cX5_put 5 (some .int) [vR 2 51, vI s, vI k, vI v] := by
  rcases Classical.em (0 ≤ s ∧ s < 8) with h1 | h1
  · skip
    obtain ⟨s, rfl⟩ : ∃ n : Nat, s = n := ⟨s.toNat, by omega⟩
    have hs : s < 8 := by omega
    have hro := (hR.C.1 s (by omega)).1
    have hE := hR.R hs
    rcases Classical.em (num k ∧ num v) with h2 | h2
    · skip
      have he : eqR ((fmark (m s) k v)) ((fmark (mR m s) k v)) := fmark_eqR hE _ _
      exact stepW (fun _ _ => aI) hR hs (fmark_ok hro (by have q := h2.2; unfold num at q; omega)) (lc_put X hX s hs k v h2.1 h2.2 m hR.C) (fun m1 hI hr h55 h56 h510 => Con.mono (c_X5_put X hX s hs k v h2.1 h2.2 m1 hI) (fun o m2 h => by
        simp only [hr] at h
        exact ⟨_, h.2, he, ⟨_, h.1, by rw [tat_eqR hE]⟩⟩))
    · skip
      exact stepX hR (by decide) (ConL.mono (lxb_put X hX s hs k jk v jv m hR.C h2) (xm hR)) (fun m1 hI hr hz0 hz1 => Con.mono (n2_X5_put X hX s hs k jk v jv m1 h2) (fun o m2 h => ⟨h.2, _, h.1⟩))
  · skip
    exact stepX hR (by decide) (ConL.mono (lxa_put X hX s js k jk v jv m h1) (xm hR)) (fun m1 hI hr hz0 hz1 => Con.mono (n1_X5_put X hX s js k jk v jv m1 h1) (fun o m2 h => ⟨h.2, _, h.1⟩))
set_option maxHeartbeats 4000000 in
set_option maxRecDepth 100000 in
theorem st_putFirst (X : jX) (hX : jxok X) (s : Int) (js : jr s) (k : Int) (jk : jr k) (v : Int) (jv : jr v) (m : jM) (hR : Rel m) : Step X m aTI aVI 59 yL_putFirst cL_putFirst 6 [(0, 12, 15, 13), (0, 12, 19, 15)] [vR 2 38, vI s, vI k, vI v, vR 2 59] yX5_putFirst cX5_putFirst 5 (some .int) [vR 2 51, vI s, vI k, vI v] := by
  rcases Classical.em (0 ≤ s ∧ s < 8) with h1 | h1
  · skip
    obtain ⟨s, rfl⟩ : ∃ n : Nat, s = n := ⟨s.toNat, by omega⟩
    have hs : s < 8 := by omega
    have hro := (hR.C.1 s (by omega)).1
    have hE := hR.R hs
    rcases Classical.em (num k ∧ num v) with h2 | h2
    · skip
      have he : eqR ((if tat (m s) k < 0 then fmark (m s) k v else m s)) ((if tat (mR m s) k < 0 then fmark (mR m s) k v else mR m s)) := by rw [tat_eqR hE]; split; { exact fmark_eqR hE _ _ }; { exact hE }
      exact stepW (fun _ _ => aI) hR hs (by split; { exact fmark_ok hro (by have q := h2.2; unfold num at q; omega) }; { exact hro }) (lc_putFirst X hX s hs k v h2.1 h2.2 m hR.C) (fun m1 hI hr h55 h56 h510 => Con.mono (c_X5_putFirst X hX s hs k v h2.1 h2.2 m1 hI) (fun o m2 h => by
        simp only [hr] at h
        exact ⟨_, h.2, he, ⟨_, h.1, by rw [tat_eqR hE]⟩⟩))
    · skip
      exact stepX hR (by decide) (ConL.mono (lxb_putFirst X hX s hs k jk v jv m hR.C h2) (xm hR)) (fun m1 hI hr hz0 hz1 => Con.mono (n2_X5_putFirst X hX s hs k jk v jv m1 h2) (fun o m2 h => ⟨h.2, _, h.1⟩))
  · skip
    exact stepX hR (by decide) (ConL.mono (lxa_putFirst X hX s js k jk v jv m h1) (xm hR)) (fun m1 hI hr hz0 hz1 => Con.mono (n1_X5_putFirst X hX s js k jk v jv m1 h1) (fun o m2 h => ⟨h.2, _, h.1⟩))
set_option maxHeartbeats 4000000 in
set_option maxRecDepth 100000 in
theorem st_change (X : jX) (hX : jxok X) (s : Int) (js : jr s) (k : Int) (jk : jr k) (v : Int) (jv : jr v) (m : jM) (hR : Rel m) : Step X m aTI aVI 59 yL_change cL_change 6 [(0, 12, 15, 13), (0, 12, 19, 15)] [vR 2 38, vI s, vI k, vI v, vR 2 59] yX5_change cX5_change 5 (some .int) [vR 2 51, vI s, vI k, vI v] := by
  rcases Classical.em (0 ≤ s ∧ s < 8) with h1 | h1
  · skip
    obtain ⟨s, rfl⟩ : ∃ n : Nat, s = n := ⟨s.toNat, by omega⟩
    have hs : s < 8 := by omega
    have hro := (hR.C.1 s (by omega)).1
    have hE := hR.R hs
    rcases Classical.em (num k ∧ num v) with h2 | h2
    · skip
      have he : eqR ((if tat (m s) k = -2 then m s else fmark (m s) k v)) ((if tat (mR m s) k = -2 then mR m s else fmark (mR m s) k v)) := by rw [tat_eqR hE]; split; { exact hE }; { exact fmark_eqR hE _ _ }
      exact stepW (fun _ _ => aI) hR hs (by split; { exact hro }; { exact fmark_ok hro (by have q := h2.2; unfold num at q; omega) }) (lc_change X hX s hs k v h2.1 h2.2 m hR.C) (fun m1 hI hr h55 h56 h510 => Con.mono (c_X5_change X hX s hs k v h2.1 h2.2 m1 hI) (fun o m2 h => by
        simp only [hr] at h
        exact ⟨_, h.2, he, ⟨_, h.1, by rw [tat_eqR hE]⟩⟩))
    · skip
      exact stepX hR (by decide) (ConL.mono (lxb_change X hX s hs k jk v jv m hR.C h2) (xm hR)) (fun m1 hI hr hz0 hz1 => Con.mono (n2_X5_change X hX s hs k jk v jv m1 h2) (fun o m2 h => ⟨h.2, _, h.1⟩))
  · skip
    exact stepX hR (by decide) (ConL.mono (lxa_change X hX s js k jk v jv m h1) (xm hR)) (fun m1 hI hr hz0 hz1 => Con.mono (n1_X5_change X hX s js k jk v jv m1 h1) (fun o m2 h => ⟨h.2, _, h.1⟩))
set_option maxHeartbeats 4000000 in
set_option maxRecDepth 100000 in
theorem st_changeIf (X : jX) (hX : jxok X) (s : Int) (js : jr s) (k : Int) (jk : jr k) (w : Int) (jw : jr w) (v : Int) (jv : jr v) (m : jM) (hR : Rel m) : Step X m aTZ aVZ 59 yL_changeIf cL_changeIf 7 [(0, 21, 24, 13), (0, 21, 28, 15)] [vR 2 38, vI s, vI k, vI w, vI v, vR 2 59] yX5_changeIf cX5_changeIf 6 (some .boolean) [vR 2 51, vI s, vI k, vI w, vI v] := by
  rcases Classical.em (0 ≤ s ∧ s < 8) with h1 | h1
  · skip
    obtain ⟨s, rfl⟩ : ∃ n : Nat, s = n := ⟨s.toNat, by omega⟩
    have hs : s < 8 := by omega
    have hro := (hR.C.1 s (by omega)).1
    have hE := hR.R hs
    rcases Classical.em (num k ∧ num w ∧ num v) with h2 | h2
    · skip
      have he : eqR ((if tat (m s) k = w then fmark (m s) k v else m s)) ((if tat (mR m s) k = w then fmark (mR m s) k v else mR m s)) := by rw [tat_eqR hE]; split; { exact fmark_eqR hE _ _ }; { exact hE }
      exact stepW (fun _ _ => aZ) hR hs (by split; { exact fmark_ok hro (by have q := h2.2.2; unfold num at q; omega) }; { exact hro }) (lc_changeIf X hX s hs k w v h2.1 h2.2.1 h2.2.2 m hR.C) (fun m1 hI hr h55 h56 h510 => Con.mono (c_X5_changeIf X hX s hs k w v h2.1 h2.2.1 h2.2.2 m1 hI) (fun o m2 h => by
        simp only [hr] at h
        exact ⟨_, h.2, he, ⟨_, h.1, by split <;> omega, by rw [tat_eqR hE]⟩⟩))
    · skip
      exact stepX hR (by decide) (ConL.mono (lxb_changeIf X hX s hs k jk w jw v jv m hR.C h2) (xm hR)) (fun m1 hI hr hz0 hz1 => Con.mono (n2_X5_changeIf X hX s hs k jk w jw v jv m1 h2) (fun o m2 h => ⟨h.2, _, h.1, Or.inl rfl⟩))
  · skip
    exact stepX hR (by decide) (ConL.mono (lxa_changeIf X hX s js k jk w jw v jv m h1) (xm hR)) (fun m1 hI hr hz0 hz1 => Con.mono (n1_X5_changeIf X hX s js k jk w jw v jv m1 h1) (fun o m2 h => ⟨h.2, _, h.1, Or.inl rfl⟩))
set_option maxHeartbeats 4000000 in
set_option maxRecDepth 100000 in
theorem st_take (X : jX) (hX : jxok X) (s : Int) (js : jr s) (k : Int) (jk : jr k) (m : jM) (hR : Rel m) : Step X m aTI aVI 59 yL_take cL_take 5 [(0, 10, 13, 13), (0, 10, 17, 15)] [vR 2 38, vI s, vI k, vR 2 59] yX5_take cX5_take 4 (some .int) [vR 2 51, vI s, vI k] := by
  rcases Classical.em (0 ≤ s ∧ s < 8) with h1 | h1
  · skip
    obtain ⟨s, rfl⟩ : ∃ n : Nat, s = n := ⟨s.toNat, by omega⟩
    have hs : s < 8 := by omega
    have hro := (hR.C.1 s (by omega)).1
    have hE := hR.R hs
    rcases Classical.em (num k) with h2 | h2
    · skip
      have he : eqR ((fmark (m s) k (-2))) ((fmark (mR m s) k (-2))) := fmark_eqR hE _ _
      exact stepW (fun _ _ => aI) hR hs (fmark_ok hro (by omega)) (lc_take X hX s hs k h2 m hR.C) (fun m1 hI hr h55 h56 h510 => Con.mono (c_X5_take X hX s hs k h2 m1 hI) (fun o m2 h => by
        simp only [hr] at h
        exact ⟨_, h.2, he, ⟨_, h.1, by rw [tat_eqR hE]⟩⟩))
    · skip
      exact stepX hR (by decide) (ConL.mono (lxb_take X hX s hs k jk m hR.C h2) (xm hR)) (fun m1 hI hr hz0 hz1 => Con.mono (n2_X5_take X hX s hs k jk m1 h2) (fun o m2 h => ⟨h.2, _, h.1⟩))
  · skip
    exact stepX hR (by decide) (ConL.mono (lxa_take X hX s js k jk m h1) (xm hR)) (fun m1 hI hr hz0 hz1 => Con.mono (n1_X5_take X hX s js k jk m1 h1) (fun o m2 h => ⟨h.2, _, h.1⟩))
set_option maxHeartbeats 4000000 in
set_option maxRecDepth 100000 in
theorem st_takeIf (X : jX) (hX : jxok X) (s : Int) (js : jr s) (k : Int) (jk : jr k) (v : Int) (jv : jr v) (m : jM) (hR : Rel m) : Step X m aTZ aVZ 59 yL_takeIf cL_takeIf 6 [(0, 19, 22, 13), (0, 19, 26, 15)] [vR 2 38, vI s, vI k, vI v, vR 2 59] yX5_takeIf cX5_takeIf 5 (some .boolean) [vR 2 51, vI s, vI k, vI v] := by
  rcases Classical.em (0 ≤ s ∧ s < 8) with h1 | h1
  · skip
    obtain ⟨s, rfl⟩ : ∃ n : Nat, s = n := ⟨s.toNat, by omega⟩
    have hs : s < 8 := by omega
    have hro := (hR.C.1 s (by omega)).1
    have hE := hR.R hs
    rcases Classical.em (num k ∧ num v) with h2 | h2
    · skip
      have he : eqR ((if tat (m s) k = v then fmark (m s) k (-2) else m s)) ((if tat (mR m s) k = v then fmark (mR m s) k (-2) else mR m s)) := by rw [tat_eqR hE]; split; { exact fmark_eqR hE _ _ }; { exact hE }
      exact stepW (fun _ _ => aZ) hR hs (by split; { exact fmark_ok hro (by omega) }; { exact hro }) (lc_takeIf X hX s hs k v h2.1 h2.2 m hR.C) (fun m1 hI hr h55 h56 h510 => Con.mono (c_X5_takeIf X hX s hs k v h2.1 h2.2 m1 hI) (fun o m2 h => by
        simp only [hr] at h
        exact ⟨_, h.2, he, ⟨_, h.1, by split <;> omega, by rw [tat_eqR hE]⟩⟩))
    · skip
      exact stepX hR (by decide) (ConL.mono (lxb_takeIf X hX s hs k jk v jv m hR.C h2) (xm hR)) (fun m1 hI hr hz0 hz1 => Con.mono (n2_X5_takeIf X hX s hs k jk v jv m1 h2) (fun o m2 h => ⟨h.2, _, h.1, Or.inl rfl⟩))
  · skip
    exact stepX hR (by decide) (ConL.mono (lxa_takeIf X hX s js k jk v jv m h1) (xm hR)) (fun m1 hI hr hz0 hz1 => Con.mono (n1_X5_takeIf X hX s js k jk v jv m1 h1) (fun o m2 h => ⟨h.2, _, h.1, Or.inl rfl⟩))
set_option maxHeartbeats 4000000 in
set_option maxRecDepth 100000 in
theorem st_get (X : jX) (hX : jxok X) (s : Int) (js : jr s) (k : Int) (jk : jr k) (m : jM) (hR : Rel m) : Step X m aTI aVI 59 yL_get cL_get 5 [(0, 10, 13, 13), (0, 10, 17, 15)] [vR 2 38, vI s, vI k, vR 2 59] yX5_get cX5_get 3 (some .int) [vR 2 51, vI s, vI k] := by
  rcases Classical.em (0 ≤ s ∧ s < 8) with h1 | h1
  · skip
    obtain ⟨s, rfl⟩ : ∃ n : Nat, s = n := ⟨s.toNat, by omega⟩
    have hs : s < 8 := by omega
    have hro := (hR.C.1 s (by omega)).1
    have hE := hR.R hs
    rcases Classical.em (num k) with h2 | h2
    · skip
      exact stepQ (fun _ _ => aI) hR (Or.inl rfl) (lc_get X hX s hs k h2 m hR.C) (fun m1 hI hr h55 h56 h510 => Con.mono (c_X5_get X hX s hs k h2 m1 hI) (fun o m2 h => by
        simp only [hr] at h
        exact ⟨h.2.1, h.2.2, ⟨_, h.1, by rw [tat_eqR hE]⟩⟩))
    · skip
      exact stepX hR (by decide) (ConL.mono (lxb_get X hX s hs k jk m hR.C h2) (xm hR)) (fun m1 hI hr hz0 hz1 => Con.mono (n2_X5_get X hX s hs k jk m1 h2) (fun o m2 h => ⟨h.2, _, h.1⟩))
  · skip
    exact stepX hR (by decide) (ConL.mono (lxa_get X hX s js k jk m h1) (xm hR)) (fun m1 hI hr hz0 hz1 => Con.mono (n1_X5_get X hX s js k jk m1 h1) (fun o m2 h => ⟨h.2, _, h.1⟩))
set_option maxHeartbeats 4000000 in
set_option maxRecDepth 100000 in
theorem st_getOr (X : jX) (hX : jxok X) (s : Int) (js : jr s) (k : Int) (jk : jr k) (v : Int) (jv : jr v) (m : jM) (hR : Rel m) : Step X m aTI aVI 59 yL_getOr cL_getOr 6 [(0, 12, 15, 13), (0, 12, 19, 15)] [vR 2 38, vI s, vI k, vI v, vR 2 59] yX5_getOr cX5_getOr 4 (some .int) [vR 2 51, vI s, vI k, vI v] := by
  rcases Classical.em (0 ≤ s ∧ s < 8) with h1 | h1
  · skip
    obtain ⟨s, rfl⟩ : ∃ n : Nat, s = n := ⟨s.toNat, by omega⟩
    have hs : s < 8 := by omega
    have hro := (hR.C.1 s (by omega)).1
    have hE := hR.R hs
    rcases Classical.em (num k ∧ num v) with h2 | h2
    · skip
      exact stepQ (fun _ _ => aI) hR (Or.inl rfl) (lc_getOr X hX s hs k v h2.1 h2.2 m hR.C) (fun m1 hI hr h55 h56 h510 => Con.mono (c_X5_getOr X hX s hs k v h2.1 h2.2 m1 hI) (fun o m2 h => by
        simp only [hr] at h
        exact ⟨h.2.1, h.2.2, ⟨_, h.1, by rw [tat_eqR hE]⟩⟩))
    · skip
      exact stepX hR (by decide) (ConL.mono (lxb_getOr X hX s hs k jk v jv m hR.C h2) (xm hR)) (fun m1 hI hr hz0 hz1 => Con.mono (n2_X5_getOr X hX s hs k jk v jv m1 h2) (fun o m2 h => ⟨h.2, _, h.1⟩))
  · skip
    exact stepX hR (by decide) (ConL.mono (lxa_getOr X hX s js k jk v jv m h1) (xm hR)) (fun m1 hI hr hz0 hz1 => Con.mono (n1_X5_getOr X hX s js k jk v jv m1 h1) (fun o m2 h => ⟨h.2, _, h.1⟩))
set_option maxHeartbeats 4000000 in
set_option maxRecDepth 100000 in
theorem st_has (X : jX) (hX : jxok X) (s : Int) (js : jr s) (k : Int) (jk : jr k) (m : jM) (hR : Rel m) : Step X m aTZ aVZ 59 yL_has cL_has 5 [(0, 17, 20, 13), (0, 17, 24, 15)] [vR 2 38, vI s, vI k, vR 2 59] yX5_has cX5_has 3 (some .boolean) [vR 2 51, vI s, vI k] := by
  rcases Classical.em (0 ≤ s ∧ s < 8) with h1 | h1
  · skip
    obtain ⟨s, rfl⟩ : ∃ n : Nat, s = n := ⟨s.toNat, by omega⟩
    have hs : s < 8 := by omega
    have hro := (hR.C.1 s (by omega)).1
    have hE := hR.R hs
    rcases Classical.em (num k) with h2 | h2
    · skip
      exact stepQ (fun _ _ => aZ) hR (Or.inl rfl) (lc_has X hX s hs k h2 m hR.C) (fun m1 hI hr h55 h56 h510 => Con.mono (c_X5_has X hX s hs k h2 m1 hI) (fun o m2 h => by
        simp only [hr] at h
        exact ⟨h.2.1, h.2.2, ⟨_, h.1, by split <;> omega, by rw [tat_eqR hE]⟩⟩))
    · skip
      exact stepX hR (by decide) (ConL.mono (lxb_has X hX s hs k jk m hR.C h2) (xm hR)) (fun m1 hI hr hz0 hz1 => Con.mono (n2_X5_has X hX s hs k jk m1 h2) (fun o m2 h => ⟨h.2, _, h.1, Or.inl rfl⟩))
  · skip
    exact stepX hR (by decide) (ConL.mono (lxa_has X hX s js k jk m h1) (xm hR)) (fun m1 hI hr hz0 hz1 => Con.mono (n1_X5_has X hX s js k jk m1 h1) (fun o m2 h => ⟨h.2, _, h.1, Or.inl rfl⟩))
set_option maxHeartbeats 4000000 in
set_option maxRecDepth 100000 in
theorem st_hasValue (X : jX) (hX : jxok X) (s : Int) (js : jr s) (v : Int) (jv : jr v) (m : jM) (hR : Rel m) : Step X m aTZ aVZ 59 yL_hasValue cL_hasValue 5 [(0, 17, 20, 13), (0, 17, 24, 15)] [vR 2 38, vI s, vI v, vR 2 59] yX5_hasValue cX5_hasValue 5 (some .boolean) [vR 2 51, vI s, vI v] := by
  rcases Classical.em (0 ≤ s ∧ s < 8) with h1 | h1
  · skip
    obtain ⟨s, rfl⟩ : ∃ n : Nat, s = n := ⟨s.toNat, by omega⟩
    have hs : s < 8 := by omega
    have hro := (hR.C.1 s (by omega)).1
    have hE := hR.R hs
    rcases Classical.em (num v) with h2 | h2
    · skip
      exact stepQ (fun _ _ => aZ) hR (Or.inl rfl) (lc_hasValue X hX s hs v h2 m hR.C) (fun m1 hI hr h55 h56 h510 => Con.mono (c_X5_hasValue X hX s hs v h2 m1 hI) (fun o m2 h => by
        simp only [hr] at h
        exact ⟨h.2.1, h.2.2, ⟨_, h.1, by split <;> omega, by rw [mult_congr hE]⟩⟩))
    · skip
      exact stepX hR (by decide) (ConL.mono (lxb_hasValue X hX s hs v jv m hR.C h2) (xm hR)) (fun m1 hI hr hz0 hz1 => Con.mono (n2_X5_hasValue X hX s hs v jv m1 h2) (fun o m2 h => ⟨h.2, _, h.1, Or.inl rfl⟩))
  · skip
    exact stepX hR (by decide) (ConL.mono (lxa_hasValue X hX s js v jv m h1) (xm hR)) (fun m1 hI hr hz0 hz1 => Con.mono (n1_X5_hasValue X hX s js v jv m1 h1) (fun o m2 h => ⟨h.2, _, h.1, Or.inl rfl⟩))
set_option maxHeartbeats 4000000 in
set_option maxRecDepth 100000 in
theorem st_dropValue (X : jX) (hX : jxok X) (s : Int) (js : jr s) (v : Int) (jv : jr v) (m : jM) (hR : Rel m) : Step X m aTI aVI 59 yL_dropValue cL_dropValue 5 [(0, 10, 13, 13), (0, 10, 17, 15)] [vR 2 38, vI s, vI v, vR 2 59] yX5_dropValue cX5_dropValue 5 (some .int) [vR 2 51, vI s, vI v] := by
  rcases Classical.em (0 ≤ s ∧ s < 8) with h1 | h1
  · skip
    obtain ⟨s, rfl⟩ : ∃ n : Nat, s = n := ⟨s.toNat, by omega⟩
    have hs : s < 8 := by omega
    have hro := (hR.C.1 s (by omega)).1
    have hE := hR.R hs
    rcases Classical.em (num v) with h2 | h2
    · skip
      have he : eqR ((fun z => if m s z = v then -2 else m s z)) ((fun z => if mR m s z = v then -2 else mR m s z)) := fun z a b => by dsimp only; rw [hE z a b]
      exact stepW (fun _ _ => aI) hR hs (rowok_if hro) (lc_dropValue X hX s hs v h2 m hR.C) (fun m1 hI hr h55 h56 h510 => Con.mono (c_X5_dropValue X hX s hs v h2 m1 hI) (fun o m2 h => by
        simp only [hr] at h
        exact ⟨_, h.2, he, ⟨_, h.1, by rw [cnt_congr hE, cnt_congr he]⟩⟩))
    · skip
      exact stepX hR (by decide) (ConL.mono (lxb_dropValue X hX s hs v jv m hR.C h2) (xm hR)) (fun m1 hI hr hz0 hz1 => Con.mono (n2_X5_dropValue X hX s hs v jv m1 h2) (fun o m2 h => ⟨h.2, _, h.1⟩))
  · skip
    exact stepX hR (by decide) (ConL.mono (lxa_dropValue X hX s js v jv m h1) (xm hR)) (fun m1 hI hr hz0 hz1 => Con.mono (n1_X5_dropValue X hX s js v jv m1 h1) (fun o m2 h => ⟨h.2, _, h.1⟩))
set_option maxHeartbeats 4000000 in
set_option maxRecDepth 100000 in
theorem st_clear (X : jX) (hX : jxok X) (s : Int) (js : jr s) (m : jM) (hR : Rel m) : Step X m aTI aVI 59 yL_clear cL_clear 4 [(0, 9, 12, 13)] [vR 2 38, vI s, vR 2 59] yX5_clear cX5_clear 4 (some .int) [vR 2 51, vI s] := by
  rcases Classical.em (0 ≤ s ∧ s < 8) with h1 | h1
  · skip
    obtain ⟨s, rfl⟩ : ∃ n : Nat, s = n := ⟨s.toNat, by omega⟩
    have hs : s < 8 := by omega
    have hro := (hR.C.1 s (by omega)).1
    have hE := hR.R hs
    have he : eqR ((fun _ => -2)) ((fun _ => -2)) := eqR_rfl _
    exact stepW (fun _ _ => aI) hR hs (rowok_none) (lc_clear X hX s hs m hR.C) (fun m1 hI hr h55 h56 h510 => Con.mono (c_X5_clear X hX s hs m1 hI) (fun o m2 h => by
      simp only [hr] at h
      exact ⟨_, h.2, he, ⟨_, h.1, by rw [cnt_congr hE]⟩⟩))
  · skip
    exact stepX hR (by decide) (ConL.mono (lxa_clear X hX s js m h1) (xm hR)) (fun m1 hI hr hz0 hz1 => Con.mono (n1_X5_clear X hX s js m1 h1) (fun o m2 h => ⟨h.2, _, h.1⟩))
set_option maxHeartbeats 4000000 in
set_option maxRecDepth 100000 in
theorem st_size (X : jX) (hX : jxok X) (s : Int) (js : jr s) (m : jM) (hR : Rel m) : Step X m aTI aVI 59 yL_size cL_size 4 [(0, 9, 12, 13)] [vR 2 38, vI s, vR 2 59] yX5_size cX5_size 2 (some .int) [vR 2 51, vI s] := by
  rcases Classical.em (0 ≤ s ∧ s < 8) with h1 | h1
  · skip
    obtain ⟨s, rfl⟩ : ∃ n : Nat, s = n := ⟨s.toNat, by omega⟩
    have hs : s < 8 := by omega
    have hro := (hR.C.1 s (by omega)).1
    have hE := hR.R hs
    exact stepQ (fun _ _ => aI) hR (Or.inl rfl) (lc_size X hX s hs m hR.C) (fun m1 hI hr h55 h56 h510 => Con.mono (c_X5_size X hX s hs m1 hI) (fun o m2 h => by
      simp only [hr] at h
      exact ⟨h.2.1, h.2.2, ⟨_, h.1, by rw [cnt_congr hE]⟩⟩))
  · skip
    exact stepX hR (by decide) (ConL.mono (lxa_size X hX s js m h1) (xm hR)) (fun m1 hI hr hz0 hz1 => Con.mono (n1_X5_size X hX s js m1 h1) (fun o m2 h => ⟨h.2, _, h.1⟩))
set_option maxHeartbeats 4000000 in
set_option maxRecDepth 100000 in
theorem st_kinds (X : jX) (hX : jxok X) (s : Int) (js : jr s) (m : jM) (hR : Rel m) : Step X m aTI aVI 59 yL_kinds cL_kinds 4 [(0, 9, 12, 13)] [vR 2 38, vI s, vR 2 59] yX5_kinds cX5_kinds 4 (some .int) [vR 2 51, vI s] := by
  rcases Classical.em (0 ≤ s ∧ s < 8) with h1 | h1
  · skip
    obtain ⟨s, rfl⟩ : ∃ n : Nat, s = n := ⟨s.toNat, by omega⟩
    have hs : s < 8 := by omega
    have hro := (hR.C.1 s (by omega)).1
    have hE := hR.R hs
    exact stepQ (fun _ _ => aI) hR (Or.inl rfl) (lc_kinds X hX s hs m hR.C) (fun m1 hI hr h55 h56 h510 => Con.mono (c_X5_kinds X hX s hs m1 hI) (fun o m2 h => by
      simp only [hr] at h
      exact ⟨h.2.1, h.2.2, ⟨_, h.1, by rw [kindsV_congr hE]⟩⟩))
  · skip
    exact stepX hR (by decide) (ConL.mono (lxa_kinds X hX s js m h1) (xm hR)) (fun m1 hI hr hz0 hz1 => Con.mono (n1_X5_kinds X hX s js m1 h1) (fun o m2 h => ⟨h.2, _, h.1⟩))
set_option maxHeartbeats 4000000 in
set_option maxRecDepth 100000 in
theorem st_hash (X : jX) (hX : jxok X) (s : Int) (js : jr s) (m : jM) (hR : Rel m) : Step X m aTI aVI 59 yL_hash cL_hash 4 [(0, 9, 12, 13)] [vR 2 38, vI s, vR 2 59] yX5_hash cX5_hash 4 (some .int) [vR 2 51, vI s] := by
  rcases Classical.em (0 ≤ s ∧ s < 8) with h1 | h1
  · skip
    obtain ⟨s, rfl⟩ : ∃ n : Nat, s = n := ⟨s.toNat, by omega⟩
    have hs : s < 8 := by omega
    have hro := (hR.C.1 s (by omega)).1
    have hE := hR.R hs
    exact stepQ (fun _ _ => aI) hR (Or.inl rfl) (lc_hash X hX s hs m hR.C) (fun m1 hI hr h55 h56 h510 => Con.mono (c_X5_hash X hX s hs m1 hI) (fun o m2 h => by
      simp only [hr] at h
      exact ⟨h.2.1, h.2.2, ⟨_, h.1, by rw [pairsN_congr hE]⟩⟩))
  · skip
    exact stepX hR (by decide) (ConL.mono (lxa_hash X hX s js m h1) (xm hR)) (fun m1 hI hr hz0 hz1 => Con.mono (n1_X5_hash X hX s js m1 h1) (fun o m2 h => ⟨h.2, _, h.1⟩))
set_option maxHeartbeats 4000000 in
set_option maxRecDepth 100000 in
theorem st_keysHash (X : jX) (hX : jxok X) (s : Int) (js : jr s) (m : jM) (hR : Rel m) : Step X m aTI aVI 59 yL_keysHash cL_keysHash 4 [(0, 9, 12, 13)] [vR 2 38, vI s, vR 2 59] yX5_keysHash cX5_keysHash 4 (some .int) [vR 2 51, vI s] := by
  rcases Classical.em (0 ≤ s ∧ s < 8) with h1 | h1
  · skip
    obtain ⟨s, rfl⟩ : ∃ n : Nat, s = n := ⟨s.toNat, by omega⟩
    have hs : s < 8 := by omega
    have hro := (hR.C.1 s (by omega)).1
    have hE := hR.R hs
    exact stepQ (fun _ _ => aI) hR (Or.inl rfl) (lc_keysHash X hX s hs m hR.C) (fun m1 hI hr h55 h56 h510 => Con.mono (c_X5_keysHash X hX s hs m1 hI) (fun o m2 h => by
      simp only [hr] at h
      exact ⟨h.2.1, h.2.2, ⟨_, h.1, by rw [keysN_congr hE]⟩⟩))
  · skip
    exact stepX hR (by decide) (ConL.mono (lxa_keysHash X hX s js m h1) (xm hR)) (fun m1 hI hr hz0 hz1 => Con.mono (n1_X5_keysHash X hX s js m1 h1) (fun o m2 h => ⟨h.2, _, h.1⟩))
set_option maxHeartbeats 4000000 in
set_option maxRecDepth 100000 in
theorem st_dropOdd (X : jX) (hX : jxok X) (s : Int) (js : jr s) (m : jM) (hR : Rel m) : Step X m aTI aVI 59 yL_dropOdd cL_dropOdd 4 [(0, 9, 12, 13)] [vR 2 38, vI s, vR 2 59] yX5_dropOdd cX5_dropOdd 4 (some .int) [vR 2 51, vI s] := by
  rcases Classical.em (0 ≤ s ∧ s < 8) with h1 | h1
  · skip
    obtain ⟨s, rfl⟩ : ∃ n : Nat, s = n := ⟨s.toNat, by omega⟩
    have hs : s < 8 := by omega
    have hro := (hR.C.1 s (by omega)).1
    have hE := hR.R hs
    have he : eqR ((fun z => if 0 < m s z ∧ jand (m s z) 1 = 1 then -2 else m s z)) ((fun z => if 0 < mR m s z ∧ jand (mR m s z) 1 = 1 then -2 else mR m s z)) := fun z a b => by dsimp only; rw [hE z a b]
    exact stepW (fun _ _ => aI) hR hs (rowok_if hro) (lc_dropOdd X hX s hs m hR.C) (fun m1 hI hr h55 h56 h510 => Con.mono (c_X5_dropOdd X hX s hs m1 hI) (fun o m2 h => by
      simp only [hr] at h
      exact ⟨_, h.2, he, ⟨_, h.1, by rw [cnt_congr hE, cnt_congr he]⟩⟩))
  · skip
    exact stepX hR (by decide) (ConL.mono (lxa_dropOdd X hX s js m h1) (xm hR)) (fun m1 hI hr hz0 hz1 => Con.mono (n1_X5_dropOdd X hX s js m1 h1) (fun o m2 h => ⟨h.2, _, h.1⟩))
set_option maxHeartbeats 4000000 in
set_option maxRecDepth 100000 in
theorem st_isInto (X : jX) (hX : jxok X) (s : Int) (js : jr s) (m : jM) (hR : Rel m) : Step X m aTZ aVZ 59 yL_isInto cL_isInto 4 [(0, 16, 19, 13)] [vR 2 38, vI s, vR 2 59] yX5_isInto cX5_isInto 2 (some .boolean) [vR 2 51, vI s] := by
  rcases Classical.em (0 ≤ s ∧ s < 8) with h1 | h1
  · skip
    obtain ⟨s, rfl⟩ : ∃ n : Nat, s = n := ⟨s.toNat, by omega⟩
    have hs : s < 8 := by omega
    have hro := (hR.C.1 s (by omega)).1
    have hE := hR.R hs
    exact stepQ (fun _ _ => aZ) hR (Or.inl rfl) (lc_isInto X hX s hs m hR.C) (fun m1 hI hr h55 h56 h510 => Con.mono (c_X5_isInto X hX s hs m1 hI) (fun o m2 h => by
      simp only [hr] at h
      exact ⟨h.2.1, h.2.2, ⟨_, h.1, bI_c _, bI_iff (inside_eqR hE)⟩⟩))
  · skip
    exact stepX hR (by decide) (ConL.mono (lxa_isInto X hX s js m h1) (xm hR)) (fun m1 hI hr hz0 hz1 => Con.mono (n1_X5_isInto X hX s js m1 h1) (fun o m2 h => ⟨h.2, _, h.1, Or.inl rfl⟩))
set_option maxHeartbeats 4000000 in
set_option maxRecDepth 100000 in
theorem st_fixed (X : jX) (hX : jxok X) (s : Int) (js : jr s) (m : jM) (hR : Rel m) : Step X m aTI aVI 59 yL_fixed cL_fixed 4 [(0, 9, 12, 13)] [vR 2 38, vI s, vR 2 59] yX5_fixed cX5_fixed 2 (some .int) [vR 2 51, vI s] := by
  rcases Classical.em (0 ≤ s ∧ s < 8) with h1 | h1
  · skip
    obtain ⟨s, rfl⟩ : ∃ n : Nat, s = n := ⟨s.toNat, by omega⟩
    have hs : s < 8 := by omega
    have hro := (hR.C.1 s (by omega)).1
    have hE := hR.R hs
    exact stepQ (fun _ _ => aI) hR (Or.inl rfl) (lc_fixed X hX s hs m hR.C) (fun m1 hI hr h55 h56 h510 => Con.mono (c_X5_fixed X hX s hs m1 hI) (fun o m2 h => by
      simp only [hr] at h
      exact ⟨h.2.1, h.2.2, ⟨_, h.1, by rw [selfN_eqR hE]⟩⟩))
  · skip
    exact stepX hR (by decide) (ConL.mono (lxa_fixed X hX s js m h1) (xm hR)) (fun m1 hI hr hz0 hz1 => Con.mono (n1_X5_fixed X hX s js m1 h1) (fun o m2 h => ⟨h.2, _, h.1⟩))
set_option maxHeartbeats 4000000 in
set_option maxRecDepth 100000 in
theorem st_shift (X : jX) (hX : jxok X) (s : Int) (js : jr s) (b : Int) (jb : jr b) (m : jM) (hR : Rel m) : Step X m aTI aVI 59 yL_shift cL_shift 5 [(0, 10, 13, 13), (0, 10, 17, 15)] [vR 2 38, vI s, vI b, vR 2 59] yX5_shift cX5_shift 6 (some .int) [vR 2 51, vI s, vI b] := by
  rcases Classical.em (0 ≤ s ∧ s < 8) with h1 | h1
  · skip
    obtain ⟨s, rfl⟩ : ∃ n : Nat, s = n := ⟨s.toNat, by omega⟩
    have hs : s < 8 := by omega
    have hro := (hR.C.1 s (by omega)).1
    have hE := hR.R hs
    rcases Classical.em (0 ≤ b ∧ b ≤ 255) with h2 | h2
    · skip
      have he : eqR ((fun z => if m s z < 0 then m s z else wr (m s z + b))) ((fun z => if mR m s z < 0 then mR m s z else wr (mR m s z + b))) := fun z a b => by dsimp only; rw [hE z a b]
      exact stepW (fun _ _ => aI) hR hs (shift_ok hro h2) (lc_shift X hX s hs b h2 m hR.C) (fun m1 hI hr h55 h56 h510 => Con.mono (c_X5_shift X hX s hs b h2 m1 hI) (fun o m2 h => by
        simp only [hr] at h
        exact ⟨_, h.2, he, ⟨_, h.1, congrArg jnI (sumN_congr 257 (fun z a b => by rw [hE z a b]))⟩⟩))
    · skip
      exact stepX hR (by decide) (ConL.mono (lxb_shift X hX s hs b jb m hR.C h2) (xm hR)) (fun m1 hI hr hz0 hz1 => Con.mono (n2_X5_shift X hX s hs b jb m1 h2) (fun o m2 h => ⟨h.2, _, h.1⟩))
  · skip
    exact stepX hR (by decide) (ConL.mono (lxa_shift X hX s js b jb m h1) (xm hR)) (fun m1 hI hr hz0 hz1 => Con.mono (n1_X5_shift X hX s js b jb m1 h1) (fun o m2 h => ⟨h.2, _, h.1⟩))
set_option maxHeartbeats 4000000 in
set_option maxRecDepth 100000 in
theorem st_merge (X : jX) (hX : jxok X) (s : Int) (js : jr s) (k : Int) (jk : jr k) (v : Int) (jv : jr v) (h0 : Int) (jh0 : jr h0) (m : jM) (hR : Rel m) : Step X m aTI aVI 59 yL_merge cL_merge 7 [(0, 14, 17, 13), (0, 14, 21, 15)] [vR 2 38, vI s, vI k, vI v, vI h0, vR 2 59] yX5_merge cX5_merge 8 (some .int) [vR 2 51, vI s, vI k, vI v, vI h0] := by
  rcases Classical.em (0 ≤ s ∧ s < 8) with h1 | h1
  · skip
    obtain ⟨s, rfl⟩ : ∃ n : Nat, s = n := ⟨s.toNat, by omega⟩
    have hs : s < 8 := by omega
    have hro := (hR.C.1 s (by omega)).1
    have hE := hR.R hs
    rcases Classical.em (num k ∧ (0 ≤ v ∧ v ≤ 255) ∧ wayM h0) with h2 | h2
    · skip
      have he : eqR ((fmark (m s) k (mergeV (tat (m s) k) v h0))) ((fmark (mR m s) k (mergeV (tat (mR m s) k) v h0))) := by rw [tat_eqR hE]; exact fmark_eqR hE _ _
      exact stepW (fun _ _ => aI) hR hs (fmark_ok hro (mergeV_b (tat_b hro _) h2.2.1)) (lc_merge X hX s hs k v h0 h2.1 h2.2.1 h2.2.2 m hR.C) (fun m1 hI hr h55 h56 h510 => Con.mono (y_X5_merge X hX s hs k v h0 h2.1 h2.2.1 h2.2.2 m1 hI) (fun o m2 h => by
        simp only [hr] at h
        exact ⟨_, h.2, he, ⟨_, h.1, by rw [tat_eqR hE]⟩⟩))
    · skip
      exact stepX hR (by decide) (ConL.mono (lxb_merge X hX s hs k jk v jv h0 jh0 m hR.C h2) (xm hR)) (fun m1 hI hr hz0 hz1 => Con.mono (n2_X5_merge X hX s hs k jk v jv h0 jh0 m1 h2) (fun o m2 h => ⟨h.2, _, h.1⟩))
  · skip
    exact stepX hR (by decide) (ConL.mono (lxa_merge X hX s js k jk v jv h0 jh0 m h1) (xm hR)) (fun m1 hI hr hz0 hz1 => Con.mono (n1_X5_merge X hX s js k jk v jv h0 jh0 m1 h1) (fun o m2 h => ⟨h.2, _, h.1⟩))
set_option maxHeartbeats 4000000 in
set_option maxRecDepth 100000 in
theorem st_compute (X : jX) (hX : jxok X) (s : Int) (js : jr s) (k : Int) (jk : jr k) (h0 : Int) (jh0 : jr h0) (m : jM) (hR : Rel m) : Step X m aTI aVI 59 yL_compute cL_compute 6 [(0, 12, 15, 13), (0, 12, 19, 15)] [vR 2 38, vI s, vI k, vI h0, vR 2 59] yX5_compute cX5_compute 7 (some .int) [vR 2 51, vI s, vI k, vI h0] := by
  rcases Classical.em (0 ≤ s ∧ s < 8) with h1 | h1
  · skip
    obtain ⟨s, rfl⟩ : ∃ n : Nat, s = n := ⟨s.toNat, by omega⟩
    have hs : s < 8 := by omega
    have hro := (hR.C.1 s (by omega)).1
    have hE := hR.R hs
    rcases Classical.em (num k ∧ wayC h0) with h2 | h2
    · skip
      have he : eqR ((fmark (m s) k (computeV (tat (m s) k) k h0))) ((fmark (mR m s) k (computeV (tat (mR m s) k) k h0))) := by rw [tat_eqR hE]; exact fmark_eqR hE _ _
      exact stepW (fun _ _ => aI) hR hs (fmark_ok hro (computeV_b (tat_b hro _) h2.1)) (lc_compute X hX s hs k h0 h2.1 h2.2 m hR.C) (fun m1 hI hr h55 h56 h510 => Con.mono (y_X5_compute X hX s hs k h0 h2.1 h2.2 m1 hI) (fun o m2 h => by
        simp only [hr] at h
        exact ⟨_, h.2, he, ⟨_, h.1, by rw [tat_eqR hE]⟩⟩))
    · skip
      exact stepX hR (by decide) (ConL.mono (lxb_compute X hX s hs k jk h0 jh0 m hR.C h2) (xm hR)) (fun m1 hI hr hz0 hz1 => Con.mono (n2_X5_compute X hX s hs k jk h0 jh0 m1 h2) (fun o m2 h => ⟨h.2, _, h.1⟩))
  · skip
    exact stepX hR (by decide) (ConL.mono (lxa_compute X hX s js k jk h0 jh0 m h1) (xm hR)) (fun m1 hI hr hz0 hz1 => Con.mono (n1_X5_compute X hX s js k jk h0 jh0 m1 h1) (fun o m2 h => ⟨h.2, _, h.1⟩))
set_option maxHeartbeats 4000000 in
set_option maxRecDepth 100000 in
theorem st_keyAt (X : jX) (hX : jxok X) (s : Int) (js : jr s) (p : Int) (jp : jr p) (m : jM) (hR : Rel m) : Step X m aTI aVI 59 yL_keyAt cL_keyAt 5 [(0, 10, 13, 13), (0, 10, 17, 69)] [vR 2 38, vI s, vI p, vR 2 59] yX5_keyAt cX5_keyAt 5 (some .int) [vR 2 51, vI s, vI p] := by
  rcases Classical.em (0 ≤ s ∧ s < 8) with h1 | h1
  · skip
    obtain ⟨s, rfl⟩ : ∃ n : Nat, s = n := ⟨s.toNat, by omega⟩
    have hs : s < 8 := by omega
    have hro := (hR.C.1 s (by omega)).1
    have hE := hR.R hs
    rcases Classical.em (0 ≤ p ∧ p < cnt (m s)) with h2 | h2
    · skip
      exact stepQ (fun _ _ => aI) hR (Or.inl rfl) (lc_keyAt X hX s hs p m hR.C h2) (fun m1 hI hr h55 h56 h510 => Con.mono (c_X5_keyAt X hX s hs p m1 hI (by rw [hr, ← cnt_congr hE]; exact h2)) (fun o m2 h => by
        simp only [hr] at h
        exact ⟨h.2.1, h.2.2, ⟨_, h.1, by rw [nthK_eqR hE]⟩⟩))
    · skip
      exact stepX hR (by decide) (ConL.mono (lxb_keyAt X hX s hs p jp m hR.C h2) (xm hR)) (fun m1 hI hr hz0 hz1 => Con.mono (n2_X5_keyAt X hX s hs p jp m1 hI (by rw [hr, ← cnt_congr hE]; exact h2)) (fun o m2 h => ⟨h.2, _, h.1⟩))
  · skip
    exact stepX hR (by decide) (ConL.mono (lxa_keyAt X hX s js p jp m h1) (xm hR)) (fun m1 hI hr hz0 hz1 => Con.mono (n1_X5_keyAt X hX s js p jp m1 h1) (fun o m2 h => ⟨h.2, _, h.1⟩))
set_option maxHeartbeats 4000000 in
set_option maxRecDepth 100000 in
theorem st_isSame (X : jX) (hX : jxok X) (s : Int) (js : jr s) (u : Int) (ju : jr u) (m : jM) (hR : Rel m) : Step X m aTZ aVZ 59 yL_isSame cL_isSame 5 [(0, 17, 20, 13)] [vR 2 38, vI s, vI u, vR 2 59] yX5_isSame cX5_isSame 5 (some .boolean) [vR 2 51, vI s, vI u] := by
  rcases Classical.em ((0 ≤ s ∧ s < 8) ∧ (0 ≤ u ∧ u < 8)) with h1 | h1
  · skip
    obtain ⟨s, rfl⟩ : ∃ n : Nat, s = n := ⟨s.toNat, by omega⟩
    have hs : s < 8 := by omega
    obtain ⟨u, rfl⟩ : ∃ n : Nat, u = n := ⟨u.toNat, by omega⟩
    have hu : u < 8 := by omega
    have hro := (hR.C.1 s (by omega)).1
    have hE := hR.R hs
    have hro2 := (hR.C.1 u (by omega)).1
    have hE2 := hR.R hu
    exact stepQ (fun _ _ => aZ) hR (Or.inl rfl) (lc_isSame X hX s hs u hu m hR.C) (fun m1 hI hr h55 h56 h510 => Con.mono (c_X5_isSame X hX s hs u hu m1 hI) (fun o m2 h => by
      simp only [hr] at h
      exact ⟨h.2.1, h.2.2, ⟨_, h.1, bI_c _, bI_iff (eqR2 hE hE2)⟩⟩))
  · skip
    exact stepX hR (by decide) (ConL.mono (lxa_isSame X hX s js u ju m h1) (xm hR)) (fun m1 hI hr hz0 hz1 => Con.mono (n1_X5_isSame X hX s js u ju m1 h1) (fun o m2 h => ⟨h.2, _, h.1, Or.inl rfl⟩))
set_option maxHeartbeats 4000000 in
set_option maxRecDepth 100000 in
theorem st_areSameKeys (X : jX) (hX : jxok X) (s : Int) (js : jr s) (u : Int) (ju : jr u) (m : jM) (hR : Rel m) : Step X m aTZ aVZ 59 yL_areSameKeys cL_areSameKeys 5 [(0, 17, 20, 13)] [vR 2 38, vI s, vI u, vR 2 59] yX5_areSameKeys cX5_areSameKeys 5 (some .boolean) [vR 2 51, vI s, vI u] := by
  rcases Classical.em ((0 ≤ s ∧ s < 8) ∧ (0 ≤ u ∧ u < 8)) with h1 | h1
  · skip
    obtain ⟨s, rfl⟩ : ∃ n : Nat, s = n := ⟨s.toNat, by omega⟩
    have hs : s < 8 := by omega
    obtain ⟨u, rfl⟩ : ∃ n : Nat, u = n := ⟨u.toNat, by omega⟩
    have hu : u < 8 := by omega
    have hro := (hR.C.1 s (by omega)).1
    have hE := hR.R hs
    have hro2 := (hR.C.1 u (by omega)).1
    have hE2 := hR.R hu
    exact stepQ (fun _ _ => aZ) hR (Or.inl rfl) (lc_areSameKeys X hX s hs u hu m hR.C) (fun m1 hI hr h55 h56 h510 => Con.mono (c_X5_areSameKeys X hX s hs u hu m1 hI) (fun o m2 h => by
      simp only [hr] at h
      exact ⟨h.2.1, h.2.2, ⟨_, h.1, bI_c _, bI_iff (eqK2 hE hE2)⟩⟩))
  · skip
    exact stepX hR (by decide) (ConL.mono (lxa_areSameKeys X hX s js u ju m h1) (xm hR)) (fun m1 hI hr hz0 hz1 => Con.mono (n1_X5_areSameKeys X hX s js u ju m1 h1) (fun o m2 h => ⟨h.2, _, h.1, Or.inl rfl⟩))
set_option maxHeartbeats 4000000 in
set_option maxRecDepth 100000 in
theorem st_areSameValues (X : jX) (hX : jxok X) (s : Int) (js : jr s) (u : Int) (ju : jr u) (m : jM) (hR : Rel m) : Step X m aTZ aVZ 59 yL_areSameValues cL_areSameValues 5 [(0, 17, 20, 13)] [vR 2 38, vI s, vI u, vR 2 59] yX5_areSameValues cX5_areSameValues 5 (some .boolean) [vR 2 51, vI s, vI u] := by
  rcases Classical.em ((0 ≤ s ∧ s < 8) ∧ (0 ≤ u ∧ u < 8)) with h1 | h1
  · skip
    obtain ⟨s, rfl⟩ : ∃ n : Nat, s = n := ⟨s.toNat, by omega⟩
    have hs : s < 8 := by omega
    obtain ⟨u, rfl⟩ : ∃ n : Nat, u = n := ⟨u.toNat, by omega⟩
    have hu : u < 8 := by omega
    have hro := (hR.C.1 s (by omega)).1
    have hE := hR.R hs
    have hro2 := (hR.C.1 u (by omega)).1
    have hE2 := hR.R hu
    exact stepQ (fun _ _ => aZ) hR (Or.inl rfl) (lc_areSameValues X hX s hs u hu m hR.C) (fun m1 hI hr h55 h56 h510 => Con.mono (c_X5_areSameValues X hX s hs u hu m1 hI) (fun o m2 h => by
      simp only [hr] at h
      exact ⟨h.2.1, h.2.2, ⟨_, h.1, bI_c _, bI_iff (eqV2 hE hE2)⟩⟩))
  · skip
    exact stepX hR (by decide) (ConL.mono (lxa_areSameValues X hX s js u ju m h1) (xm hR)) (fun m1 hI hr hz0 hz1 => Con.mono (n1_X5_areSameValues X hX s js u ju m1 h1) (fun o m2 h => ⟨h.2, _, h.1, Or.inl rfl⟩))
set_option maxHeartbeats 4000000 in
set_option maxRecDepth 100000 in
theorem st_copy (X : jX) (hX : jxok X) (s : Int) (js : jr s) (u : Int) (ju : jr u) (m : jM) (hR : Rel m) : Step X m aTI aVI 59 yL_copy cL_copy 5 [(0, 10, 13, 13)] [vR 2 38, vI s, vI u, vR 2 59] yX5_copy cX5_copy 4 (some .int) [vR 2 51, vI s, vI u] := by
  rcases Classical.em ((0 ≤ s ∧ s < 8) ∧ (0 ≤ u ∧ u < 8)) with h1 | h1
  · skip
    obtain ⟨s, rfl⟩ : ∃ n : Nat, s = n := ⟨s.toNat, by omega⟩
    have hs : s < 8 := by omega
    obtain ⟨u, rfl⟩ : ∃ n : Nat, u = n := ⟨u.toNat, by omega⟩
    have hu : u < 8 := by omega
    have hro := (hR.C.1 s (by omega)).1
    have hE := hR.R hs
    have hro2 := (hR.C.1 u (by omega)).1
    have hE2 := hR.R hu
    have he : eqR ((m s)) ((mR m s)) := hE
    exact stepW (fun _ _ => aI) hR hu (hro) (lc_copy X hX s hs u hu m hR.C) (fun m1 hI hr h55 h56 h510 => Con.mono (c_X5_copy X hX s hs u hu m1 hI) (fun o m2 h => by
      simp only [hr] at h
      exact ⟨_, h.2, he, ⟨_, h.1, by rw [cnt_congr hE]⟩⟩))
  · skip
    exact stepX hR (by decide) (ConL.mono (lxa_copy X hX s js u ju m h1) (xm hR)) (fun m1 hI hr hz0 hz1 => Con.mono (n1_X5_copy X hX s js u ju m1 h1) (fun o m2 h => ⟨h.2, _, h.1⟩))
set_option maxHeartbeats 4000000 in
set_option maxRecDepth 100000 in
theorem st_join (X : jX) (hX : jxok X) (s : Int) (js : jr s) (u : Int) (ju : jr u) (w : Int) (jw : jr w) (m : jM) (hR : Rel m) : Step X m aTI aVI 59 yL_join cL_join 6 [(0, 12, 15, 13)] [vR 2 38, vI s, vI u, vI w, vR 2 59] yX5_join cX5_join 5 (some .int) [vR 2 51, vI s, vI u, vI w] := by
  rcases Classical.em ((0 ≤ s ∧ s < 8) ∧ (0 ≤ u ∧ u < 8) ∧ (0 ≤ w ∧ w < 8)) with h1 | h1
  · skip
    obtain ⟨s, rfl⟩ : ∃ n : Nat, s = n := ⟨s.toNat, by omega⟩
    have hs : s < 8 := by omega
    obtain ⟨u, rfl⟩ : ∃ n : Nat, u = n := ⟨u.toNat, by omega⟩
    have hu : u < 8 := by omega
    obtain ⟨w, rfl⟩ : ∃ n : Nat, w = n := ⟨w.toNat, by omega⟩
    have hw : w < 8 := by omega
    have hro := (hR.C.1 s (by omega)).1
    have hE := hR.R hs
    have hro2 := (hR.C.1 u (by omega)).1
    have hE2 := hR.R hu
    have he : eqR ((fun z => if m u z = -2 then m s z else m u z)) ((fun z => if mR m u z = -2 then mR m s z else mR m u z)) := fun z a b => by dsimp only; rw [hE z a b, hE2 z a b]
    exact stepW (fun _ _ => aI) hR hw (rowok_if3 hro hro2) (lc_join X hX s hs u hu w hw m hR.C) (fun m1 hI hr h55 h56 h510 => Con.mono (c_X5_join X hX s hs u hu w hw m1 hI) (fun o m2 h => by
      simp only [hr] at h
      exact ⟨_, h.2, he, ⟨_, h.1, by rw [cnt_congr he]⟩⟩))
  · skip
    exact stepX hR (by decide) (ConL.mono (lxa_join X hX s js u ju w jw m h1) (xm hR)) (fun m1 hI hr hz0 hz1 => Con.mono (n1_X5_join X hX s js u ju w jw m1 h1) (fun o m2 h => ⟨h.2, _, h.1⟩))
set_option maxHeartbeats 4000000 in
set_option maxRecDepth 100000 in
theorem st_less (X : jX) (hX : jxok X) (s : Int) (js : jr s) (u : Int) (ju : jr u) (w : Int) (jw : jr w) (m : jM) (hR : Rel m) : Step X m aTI aVI 59 yL_less cL_less 6 [(0, 12, 15, 13)] [vR 2 38, vI s, vI u, vI w, vR 2 59] yX5_less cX5_less 5 (some .int) [vR 2 51, vI s, vI u, vI w] := by
  rcases Classical.em ((0 ≤ s ∧ s < 8) ∧ (0 ≤ u ∧ u < 8) ∧ (0 ≤ w ∧ w < 8)) with h1 | h1
  · skip
    obtain ⟨s, rfl⟩ : ∃ n : Nat, s = n := ⟨s.toNat, by omega⟩
    have hs : s < 8 := by omega
    obtain ⟨u, rfl⟩ : ∃ n : Nat, u = n := ⟨u.toNat, by omega⟩
    have hu : u < 8 := by omega
    obtain ⟨w, rfl⟩ : ∃ n : Nat, w = n := ⟨w.toNat, by omega⟩
    have hw : w < 8 := by omega
    have hro := (hR.C.1 s (by omega)).1
    have hE := hR.R hs
    have hro2 := (hR.C.1 u (by omega)).1
    have hE2 := hR.R hu
    have he : eqR ((fun z => if m u z = -2 then m s z else -2)) ((fun z => if mR m u z = -2 then mR m s z else -2)) := fun z a b => by dsimp only; rw [hE z a b, hE2 z a b]
    exact stepW (fun _ _ => aI) hR hw (rowok_if2 hro) (lc_less X hX s hs u hu w hw m hR.C) (fun m1 hI hr h55 h56 h510 => Con.mono (c_X5_less X hX s hs u hu w hw m1 hI) (fun o m2 h => by
      simp only [hr] at h
      exact ⟨_, h.2, he, ⟨_, h.1, by rw [cnt_congr he]⟩⟩))
  · skip
    exact stepX hR (by decide) (ConL.mono (lxa_less X hX s js u ju w jw m h1) (xm hR)) (fun m1 hI hr hz0 hz1 => Con.mono (n1_X5_less X hX s js u ju w jw m1 h1) (fun o m2 h => ⟨h.2, _, h.1⟩))
set_option maxHeartbeats 4000000 in
set_option maxRecDepth 100000 in
theorem st_common (X : jX) (hX : jxok X) (s : Int) (js : jr s) (u : Int) (ju : jr u) (w : Int) (jw : jr w) (m : jM) (hR : Rel m) : Step X m aTI aVI 59 yL_common cL_common 6 [(0, 12, 15, 13)] [vR 2 38, vI s, vI u, vI w, vR 2 59] yX5_common cX5_common 5 (some .int) [vR 2 51, vI s, vI u, vI w] := by
  rcases Classical.em ((0 ≤ s ∧ s < 8) ∧ (0 ≤ u ∧ u < 8) ∧ (0 ≤ w ∧ w < 8)) with h1 | h1
  · skip
    obtain ⟨s, rfl⟩ : ∃ n : Nat, s = n := ⟨s.toNat, by omega⟩
    have hs : s < 8 := by omega
    obtain ⟨u, rfl⟩ : ∃ n : Nat, u = n := ⟨u.toNat, by omega⟩
    have hu : u < 8 := by omega
    obtain ⟨w, rfl⟩ : ∃ n : Nat, w = n := ⟨w.toNat, by omega⟩
    have hw : w < 8 := by omega
    have hro := (hR.C.1 s (by omega)).1
    have hE := hR.R hs
    have hro2 := (hR.C.1 u (by omega)).1
    have hE2 := hR.R hu
    have he : eqR ((fun z => if m u z = -2 then -2 else m s z)) ((fun z => if mR m u z = -2 then -2 else mR m s z)) := fun z a b => by dsimp only; rw [hE z a b, hE2 z a b]
    exact stepW (fun _ _ => aI) hR hw (rowok_if hro) (lc_common X hX s hs u hu w hw m hR.C) (fun m1 hI hr h55 h56 h510 => Con.mono (c_X5_common X hX s hs u hu w hw m1 hI) (fun o m2 h => by
      simp only [hr] at h
      exact ⟨_, h.2, he, ⟨_, h.1, by rw [cnt_congr he]⟩⟩))
  · skip
    exact stepX hR (by decide) (ConL.mono (lxa_common X hX s js u ju w jw m h1) (xm hR)) (fun m1 hI hr hz0 hz1 => Con.mono (n1_X5_common X hX s js u ju w jw m1 h1) (fun o m2 h => ⟨h.2, _, h.1⟩))
set_option maxHeartbeats 4000000 in
set_option maxRecDepth 100000 in
theorem st_alike (X : jX) (hX : jxok X) (s : Int) (js : jr s) (u : Int) (ju : jr u) (w : Int) (jw : jr w) (m : jM) (hR : Rel m) : Step X m aTI aVI 59 yL_alike cL_alike 6 [(0, 12, 15, 13)] [vR 2 38, vI s, vI u, vI w, vR 2 59] yX5_alike cX5_alike 5 (some .int) [vR 2 51, vI s, vI u, vI w] := by
  rcases Classical.em ((0 ≤ s ∧ s < 8) ∧ (0 ≤ u ∧ u < 8) ∧ (0 ≤ w ∧ w < 8)) with h1 | h1
  · skip
    obtain ⟨s, rfl⟩ : ∃ n : Nat, s = n := ⟨s.toNat, by omega⟩
    have hs : s < 8 := by omega
    obtain ⟨u, rfl⟩ : ∃ n : Nat, u = n := ⟨u.toNat, by omega⟩
    have hu : u < 8 := by omega
    obtain ⟨w, rfl⟩ : ∃ n : Nat, w = n := ⟨w.toNat, by omega⟩
    have hw : w < 8 := by omega
    have hro := (hR.C.1 s (by omega)).1
    have hE := hR.R hs
    have hro2 := (hR.C.1 u (by omega)).1
    have hE2 := hR.R hu
    have he : eqR ((fun z => if m s z = m u z then m s z else -2)) ((fun z => if mR m s z = mR m u z then mR m s z else -2)) := fun z a b => by dsimp only; rw [hE z a b, hE2 z a b]
    exact stepW (fun _ _ => aI) hR hw (rowok_if2 hro) (lc_alike X hX s hs u hu w hw m hR.C) (fun m1 hI hr h55 h56 h510 => Con.mono (c_X5_alike X hX s hs u hu w hw m1 hI) (fun o m2 h => by
      simp only [hr] at h
      exact ⟨_, h.2, he, ⟨_, h.1, by rw [cnt_congr he]⟩⟩))
  · skip
    exact stepX hR (by decide) (ConL.mono (lxa_alike X hX s js u ju w jw m h1) (xm hR)) (fun m1 hI hr hz0 hz1 => Con.mono (n1_X5_alike X hX s js u ju w jw m1 h1) (fun o m2 h => ⟨h.2, _, h.1⟩))
set_option maxHeartbeats 4000000 in
set_option maxRecDepth 100000 in
theorem st_behind (X : jX) (hX : jxok X) (s : Int) (js : jr s) (u : Int) (ju : jr u) (w : Int) (jw : jr w) (m : jM) (hR : Rel m) : Step X m aTI aVI 59 yL_behind cL_behind 6 [(0, 12, 15, 13)] [vR 2 38, vI s, vI u, vI w, vR 2 59] yX5_behind cX5_behind 5 (some .int) [vR 2 51, vI s, vI u, vI w] := by
  rcases Classical.em ((0 ≤ s ∧ s < 8) ∧ (0 ≤ u ∧ u < 8) ∧ (0 ≤ w ∧ w < 8)) with h1 | h1
  · skip
    obtain ⟨s, rfl⟩ : ∃ n : Nat, s = n := ⟨s.toNat, by omega⟩
    have hs : s < 8 := by omega
    obtain ⟨u, rfl⟩ : ∃ n : Nat, u = n := ⟨u.toNat, by omega⟩
    have hu : u < 8 := by omega
    obtain ⟨w, rfl⟩ : ∃ n : Nat, w = n := ⟨w.toNat, by omega⟩
    have hw : w < 8 := by omega
    have hro := (hR.C.1 s (by omega)).1
    have hE := hR.R hs
    have hro2 := (hR.C.1 u (by omega)).1
    have hE2 := hR.R hu
    have he : eqR ((fun z => if m s z = -2 then -2 else tat (m u) (m s z))) ((fun z => if mR m s z = -2 then -2 else tat (mR m u) (mR m s z))) := fun z a b => by dsimp only; rw [tat_eqR hE2, hE z a b]
    exact stepW (fun _ _ => aI) hR hw (comp_ok (h := m u) (g := m s) hro2) (lc_behind X hX s hs u hu w hw m hR.C) (fun m1 hI hr h55 h56 h510 => Con.mono (c_X5_behind X hX s hs u hu w hw m1 hI) (fun o m2 h => by
      simp only [hr] at h
      exact ⟨_, h.2, he, ⟨_, h.1, by rw [cnt_congr he]⟩⟩))
  · skip
    exact stepX hR (by decide) (ConL.mono (lxa_behind X hX s js u ju w jw m h1) (xm hR)) (fun m1 hI hr hz0 hz1 => Con.mono (n1_X5_behind X hX s js u ju w jw m1 h1) (fun o m2 h => ⟨h.2, _, h.1⟩))
set_option maxHeartbeats 4000000 in
set_option maxRecDepth 100000 in
theorem st_turn (X : jX) (hX : jxok X) (s : Int) (js : jr s) (u : Int) (ju : jr u) (m : jM) (hR : Rel m) : Step X m aTI aVI 59 yL_turn cL_turn 5 [(0, 10, 13, 13), (0, 10, 17, 116)] [vR 2 38, vI s, vI u, vR 2 59] yX5_turn cX5_turn 4 (some .int) [vR 2 51, vI s, vI u] := by
  rcases Classical.em ((0 ≤ s ∧ s < 8) ∧ (0 ≤ u ∧ u < 8)) with h1 | h1
  · skip
    obtain ⟨s, rfl⟩ : ∃ n : Nat, s = n := ⟨s.toNat, by omega⟩
    have hs : s < 8 := by omega
    obtain ⟨u, rfl⟩ : ∃ n : Nat, u = n := ⟨u.toNat, by omega⟩
    have hu : u < 8 := by omega
    have hro := (hR.C.1 s (by omega)).1
    have hE := hR.R hs
    have hro2 := (hR.C.1 u (by omega)).1
    have hE2 := hR.R hu
    rcases Classical.em (once (m s)) with h2 | h2
    · skip
      have he : eqR ((turnN (m s) 257)) ((turnN (mR m s) 257)) := by rw [turnN_eqR hE 257 (Nat.le_refl _)]; exact eqR_rfl _
      exact stepW (fun _ _ => aI) hR hu (turn_ok _) (lc_turn X hX s hs u hu m hR.C h2) (fun m1 hI hr h55 h56 h510 => Con.mono (c_X5_turn X hX s hs u hu m1 hI (by rw [hr]; exact (once_eqR hE).mp h2)) (fun o m2 h => by
        simp only [hr] at h
        exact ⟨_, h.2, he, ⟨_, h.1, by rw [cnt_congr he]⟩⟩))
    · skip
      exact stepX hR (by decide) (lxb_turn X hX s hs u hu m hR.C h2) (fun m1 hI hr hz0 hz1 => Con.mono (n2_X5_turn X hX s hs u hu m1 hI (by rw [hr]; exact (fun q => h2 ((once_eqR hE).mpr q)))) (fun o m2 h => ⟨h.2, _, h.1⟩))
  · skip
    exact stepX hR (by decide) (ConL.mono (lxa_turn X hX s js u ju m h1) (xm hR)) (fun m1 hI hr hz0 hz1 => Con.mono (n1_X5_turn X hX s js u ju m1 h1) (fun o m2 h => ⟨h.2, _, h.1⟩))
set_option maxHeartbeats 4000000 in
set_option maxRecDepth 100000 in
theorem st_power (X : jX) (hX : jxok X) (s : Int) (js : jr s) (e : Int) (je : jr e) (u : Int) (ju : jr u) (m : jM) (hR : Rel m) : Step X m aTI aVI 59 yL_power cL_power 6 [(0, 12, 15, 13), (0, 12, 19, 15)] [vR 2 38, vI s, vI e, vI u, vR 2 59] yX5_power cX5_power 6 (some .int) [vR 2 51, vI s, vI e, vI u] := by
  rcases Classical.em ((0 ≤ s ∧ s < 8) ∧ (0 ≤ u ∧ u < 8)) with h1 | h1
  · skip
    obtain ⟨s, rfl⟩ : ∃ n : Nat, s = n := ⟨s.toNat, by omega⟩
    have hs : s < 8 := by omega
    obtain ⟨u, rfl⟩ : ∃ n : Nat, u = n := ⟨u.toNat, by omega⟩
    have hu : u < 8 := by omega
    have hro := (hR.C.1 s (by omega)).1
    have hE := hR.R hs
    rcases Classical.em (0 ≤ e ∧ e ≤ 1000) with h2 | h2
    · skip
      obtain ⟨e, rfl⟩ : ∃ n : Nat, e = n := ⟨e.toNat, by omega⟩
      have he0 : e ≤ 1000 := by omega
      have he : eqR ((powN (m s) (selv (m s)) e)) ((powN (mR m s) (selv (mR m s)) e)) := pow_eqR hE hro e
      exact stepW (fun _ _ => aI) hR hu (powN_ok hro (selv_ok _) e) (lc_power X hX s hs e he0 u hu m hR.C) (fun m1 hI hr h55 h56 h510 => Con.mono (c_X5_power X hX s hs e he0 u hu m1 hI) (fun o m2 h => by
        simp only [hr] at h
        exact ⟨_, h.2, he, ⟨_, h.1, by rw [cnt_congr he]⟩⟩))
    · skip
      exact stepX hR (by decide) (ConL.mono (lxb_power X hX s hs e je u hu m hR.C h2) (xm hR)) (fun m1 hI hr hz0 hz1 => Con.mono (n2_X5_power X hX s hs e je u hu m1 h2) (fun o m2 h => ⟨h.2, _, h.1⟩))
  · skip
    exact stepX hR (by decide) (ConL.mono (lxa_power X hX s js e je u ju m h1) (xm hR)) (fun m1 hI hr hz0 hz1 => Con.mono (n1_X5_power X hX s js e je u ju m1 h1) (fun o m2 h => ⟨h.2, _, h.1⟩))
set_option maxHeartbeats 4000000 in
set_option maxRecDepth 100000 in
theorem st_steps (X : jX) (hX : jxok X) (s : Int) (js : jr s) (k : Int) (jk : jr k) (m : jM) (hR : Rel m) : Step X m aTI aVI 59 yL_steps cL_steps 5 [(0, 10, 13, 13), (0, 10, 17, 15), (0, 10, 21, 69)] [vR 2 38, vI s, vI k, vR 2 59] yX5_steps cX5_steps 3 (some .int) [vR 2 51, vI s, vI k] := by
  rcases Classical.em (0 ≤ s ∧ s < 8) with h1 | h1
  · skip
    obtain ⟨s, rfl⟩ : ∃ n : Nat, s = n := ⟨s.toNat, by omega⟩
    have hs : s < 8 := by omega
    have hro := (hR.C.1 s (by omega)).1
    have hE := hR.R hs
    rcases Classical.em (num k) with h2 | h2
    · skip
      rcases Classical.em (tat (m s) k = -2) with h3 | h3
      · skip
        exact stepX hR (by decide) (ConL.mono (lxc_steps X hX s hs k h2 m hR.C h3) (xm hR)) (fun m1 hI hr hz0 hz1 => Con.mono (n3_X5_steps X hX s hs k h2 m1 hI (by rw [hr, ← tat_eqR hE]; exact h3)) (fun o m2 h => ⟨h.2, _, h.1⟩))
      · skip
        exact stepQ (fun _ _ => aI) hR (Or.inl rfl) (lc_steps X hX s hs k h2 m hR.C h3) (fun m1 hI hr h55 h56 h510 => Con.mono (c_X5_steps X hX s hs k h2 m1 hI (by rw [hr, ← tat_eqR hE]; exact h3)) (fun o m2 h => by
          simp only [hr] at h
          exact ⟨h.2.1, h.2.2, ⟨_, h.1, by rw [per_eqR hE]⟩⟩))
    · skip
      exact stepX hR (by decide) (ConL.mono (lxb_steps X hX s hs k jk m hR.C h2) (xm hR)) (fun m1 hI hr hz0 hz1 => Con.mono (n2_X5_steps X hX s hs k jk m1 h2) (fun o m2 h => ⟨h.2, _, h.1⟩))
  · skip
    exact stepX hR (by decide) (ConL.mono (lxa_steps X hX s js k jk m h1) (xm hR)) (fun m1 hI hr hz0 hz1 => Con.mono (n1_X5_steps X hX s js k jk m1 h1) (fun o m2 h => ⟨h.2, _, h.1⟩))
set_option maxHeartbeats 4000000 in
set_option maxRecDepth 100000 in
theorem st_ring (X : jX) (hX : jxok X) (s : Int) (js : jr s) (k : Int) (jk : jr k) (m : jM) (hR : Rel m) : Step X m aTI aVI 59 yL_ring cL_ring 5 [(0, 10, 13, 13), (0, 10, 17, 15), (0, 10, 21, 69)] [vR 2 38, vI s, vI k, vR 2 59] yX5_ring cX5_ring 4 (some .int) [vR 2 51, vI s, vI k] := by
  rcases Classical.em (0 ≤ s ∧ s < 8) with h1 | h1
  · skip
    obtain ⟨s, rfl⟩ : ∃ n : Nat, s = n := ⟨s.toNat, by omega⟩
    have hs : s < 8 := by omega
    have hro := (hR.C.1 s (by omega)).1
    have hE := hR.R hs
    rcases Classical.em (num k) with h2 | h2
    · skip
      rcases Classical.em (tat (m s) k = -2) with h3 | h3
      · skip
        exact stepX hR (by decide) (ConL.mono (lxc_ring X hX s hs k h2 m hR.C h3) (xm hR)) (fun m1 hI hr hz0 hz1 => Con.mono (n3_X5_ring X hX s hs k h2 m1 hI (by rw [hr, ← tat_eqR hE]; exact h3)) (fun o m2 h => ⟨h.2, _, h.1⟩))
      · skip
        exact stepQ (fun _ _ => aI) hR (Or.inl rfl) (lc_ring X hX s hs k h2 m hR.C h3) (fun m1 hI hr h55 h56 h510 => Con.mono (c_X5_ring X hX s hs k h2 m1 hI (by rw [hr, ← tat_eqR hE]; exact h3)) (fun o m2 h => by
          simp only [hr] at h
          exact ⟨h.2.1, h.2.2, ⟨_, h.1, by rw [ringV_eqR hE]⟩⟩))
    · skip
      exact stepX hR (by decide) (ConL.mono (lxb_ring X hX s hs k jk m hR.C h2) (xm hR)) (fun m1 hI hr hz0 hz1 => Con.mono (n2_X5_ring X hX s hs k jk m1 h2) (fun o m2 h => ⟨h.2, _, h.1⟩))
  · skip
    exact stepX hR (by decide) (ConL.mono (lxa_ring X hX s js k jk m h1) (xm hR)) (fun m1 hI hr hz0 hz1 => Con.mono (n1_X5_ring X hX s js k jk m1 h1) (fun o m2 h => ⟨h.2, _, h.1⟩))
set_option maxHeartbeats 4000000 in
set_option maxRecDepth 100000 in
theorem st_order (X : jX) (hX : jxok X) (s : Int) (js : jr s) (m : jM) (hR : Rel m) : Step X m aTL aVL 59 yL_order cL_order 4 [(0, 8, 11, 13), (0, 8, 14, 116)] [vR 2 38, vI s, vR 2 59] yX5_order cX5_order 13 (some .long) [vR 2 51, vI s] := by
  rcases Classical.em (0 ≤ s ∧ s < 8) with h1 | h1
  · skip
    obtain ⟨s, rfl⟩ : ∃ n : Nat, s = n := ⟨s.toNat, by omega⟩
    have hs : s < 8 := by omega
    have hro := (hR.C.1 s (by omega)).1
    have hE := hR.R hs
    rcases Classical.em (inside (m s) ∧ once (m s)) with h2 | h2
    · skip
      have hp : perm (mR m s) := ⟨rowok_eqR hE hro, once_inj (rowok_eqR hE hro) ((once_eqR hE).mp h2.2), (inside_eqR hE).mp h2.1⟩
      exact stepQ (fun _ _ => aL) hR (Or.inl rfl) (lc_order X hX s hs m hR.C h2.1 h2.2) (fun m1 hI hr h55 h56 h510 => Con.mono (c_X5_order X hX s hs m1 hI (by rw [hr]; exact (inside_eqR hE).mp h2.1) (by rw [hr]; exact (once_eqR hE).mp h2.2)) (fun o m2 h => by
        simp only [hr] at h
        exact ⟨h.2.1, h.2.2, ⟨_, h.1, by rw [lcmN_eqR hE 257 (Nat.le_refl _)], by have := lcm_small hp (n := 257) (Nat.le_refl _); constructor <;> omega⟩⟩))
    · skip
      exact stepX hR (by decide) (lxb_order X hX s hs m hR.C h2) (fun m1 hI hr hz0 hz1 => Con.mono (n2_X5_order X hX s hs m1 hI (by rw [hr]; exact (fun q => h2 ⟨(inside_eqR hE).mpr q.1, (once_eqR hE).mpr q.2⟩))) (fun o m2 h => ⟨h.2, _, h.1⟩))
  · skip
    exact stepX hR (by decide) (ConL.mono (lxa_order X hX s js m h1) (xm hR)) (fun m1 hI hr hz0 hz1 => Con.mono (n1_X5_order X hX s js m1 h1) (fun o m2 h => ⟨h.2, _, h.1⟩))
set_option maxHeartbeats 4000000 in
set_option maxRecDepth 100000 in
theorem st_share (X : jX) (hX : jxok X) (s : Int) (js : jr s) (m : jM) (hR : Rel m) : Step X m aTF aVF 60 yL_share cL_share 4 [(0, 9, 12, 13), (0, 9, 15, 164)] [vR 2 38, vI s, vR 2 60] yX5_share cX5_share 2 (some .float) [vR 2 51, vI s] := by
  rcases Classical.em (0 ≤ s ∧ s < 8) with h1 | h1
  · skip
    obtain ⟨s, rfl⟩ : ∃ n : Nat, s = n := ⟨s.toNat, by omega⟩
    have hs : s < 8 := by omega
    have hro := (hR.C.1 s (by omega)).1
    have hE := hR.R hs
    rcases Classical.em (cnt (m s) = 0) with h2 | h2
    · skip
      exact stepX hR (by decide) (ConL.mono (lxb_share X hX s hs m hR.C h2) (xm hR)) (fun m1 hI hr hz0 hz1 => Con.mono (n2_X5_share X hX s hs m1 hI (by rw [hr, ← cnt_congr hE]; exact h2)) (fun o m2 h => ⟨h.2, _, h.1⟩))
    · skip
      exact stepQ (fun _ _ => aF) hR (Or.inr rfl) (lc_share X hX s hs m hR.C h2) (fun m1 hI hr h55 h56 h510 => Con.mono (c_X5_share X hX s hs m1 hI (by rw [hr, ← cnt_congr hE]; exact h2)) (fun o m2 h => by
        simp only [hr] at h
        exact ⟨h.2.1, h.2.2, ⟨_, h.1, by rw [cnt_congr hE, selfN_eqR hE], shr_nan (by have q := cnt_b (mR m s); rw [cnt_congr hE] at h2; omega)⟩⟩))
  · skip
    exact stepX hR (by decide) (ConL.mono (lxa_share X hX s js m h1) (xm hR)) (fun m1 hI hr hz0 hz1 => Con.mono (n1_X5_share X hX s js m1 h1) (fun o m2 h => ⟨h.2, _, h.1⟩))
set_option maxHeartbeats 4000000 in
set_option maxRecDepth 100000 in
theorem st_say (X : jX) (hX : jxok X) (k : Int) (jk : jr k) (v : Int) (jv : jr v) (m : jM) (hR : Rel m) : Step X m aTI aVI 59 yL_say cL_say 5 [(0, 10, 13, 15), (0, 10, 17, 141)] [vR 2 38, vI k, vI v, vR 2 59] yX5_say cX5_say 3 (some .int) [vR 2 51, vI k, vI v] := by
  obtain ⟨w, hw, hmw, hK, hV⟩ := hR.2.2.2.1
  have hw60 := hw.2.1
  have hwin := hw.2.2
  have hm0 := hw.1
  have hmm0 := hmw.2.1
  rcases Classical.em (num k ∧ num v) with h2 | h2
  · skip
    rcases Classical.em (w = 60) with h3 | h3
    · skip
      exact stepX hR (by decide) (ConL.mono (lxb_say X hX k v h2.1 h2.2 w m hw h3) (xm hR)) (fun m1 hI hr hz0 hz1 => Con.mono (n2_X5_say X hX k v h2.1 h2.2 m1 (by rw [hz0, hmm0, h3]; rfl)) (fun o m2 h => ⟨h.2, _, h.1⟩))
    · skip
      exact stepR (fun _ _ => aI) hR (by omega) (fun z a b => by
        try dsimp only
        by_cases q : z = w
        · rw [if_pos q, if_pos q]; exact ⟨h2.1, by have q := h2.2; unfold num at q; omega⟩
        · rw [if_neg q, if_neg q]; exact hwin z a (by omega)) (lc_say X hX k v h2.1 h2.2 w m hR.C hw (by omega)) (fun m1 hI h55 h56 h510 => Con.mono (c_X5_say X hX k v h2.1 h2.2 w m1 (show mwok m1 w by unfold mwok; rw [h510, h55, h56]; exact hmw) (by omega)) (fun o m2 h => by
        rw [h55, h56] at h
        exact ⟨_, _, h.2.1, h.2.2, (fun z a b => by dsimp only; by_cases q : z = w; { rw [if_pos q, if_pos q] }; { rw [if_neg q, if_neg q]; exact hK z a (by omega) }), (fun z a b => by dsimp only; by_cases q : z = w; { rw [if_pos q, if_pos q] }; { rw [if_neg q, if_neg q]; exact hV z a (by omega) }), _, h.1, rfl⟩))
  · skip
    exact stepX hR (by decide) (ConL.mono (lxa_say X hX k jk v jv m h2) (xm hR)) (fun m1 hI hr hz0 hz1 => Con.mono (n1_X5_say X hX k jk v jv m1 h2) (fun o m2 h => ⟨h.2, _, h.1⟩))
set_option maxHeartbeats 4000000 in
set_option maxRecDepth 100000 in
theorem st_unsay (X : jX) (hX : jxok X) (k : Int) (jk : jr k) (m : jM) (hR : Rel m) : Step X m aTI aVI 59 yL_unsay cL_unsay 4 [(0, 9, 12, 15), (0, 9, 15, 141)] [vR 2 38, vI k, vR 2 59] yX5_unsay cX5_unsay 2 (some .int) [vR 2 51, vI k] := by
  obtain ⟨w, hw, hmw, hK, hV⟩ := hR.2.2.2.1
  have hw60 := hw.2.1
  have hwin := hw.2.2
  have hm0 := hw.1
  have hmm0 := hmw.2.1
  rcases Classical.em (num k) with h2 | h2
  · skip
    rcases Classical.em (w = 60) with h3 | h3
    · skip
      exact stepX hR (by decide) (ConL.mono (lxb_unsay X hX k h2 w m hw h3) (xm hR)) (fun m1 hI hr hz0 hz1 => Con.mono (n2_X5_unsay X hX k h2 m1 (by rw [hz0, hmm0, h3]; rfl)) (fun o m2 h => ⟨h.2, _, h.1⟩))
    · skip
      exact stepR (fun _ _ => aI) hR (by omega) (fun z a b => by
        try dsimp only
        by_cases q : z = w
        · rw [if_pos q, if_pos q]; exact ⟨h2, by omega⟩
        · rw [if_neg q, if_neg q]; exact hwin z a (by omega)) (lc_unsay X hX k h2 w m hR.C hw (by omega)) (fun m1 hI h55 h56 h510 => Con.mono (c_X5_unsay X hX k h2 w m1 (show mwok m1 w by unfold mwok; rw [h510, h55, h56]; exact hmw) (by omega)) (fun o m2 h => by
        rw [h55, h56] at h
        exact ⟨_, _, h.2.1, h.2.2, (fun z a b => by dsimp only; by_cases q : z = w; { rw [if_pos q, if_pos q] }; { rw [if_neg q, if_neg q]; exact hK z a (by omega) }), (fun z a b => by dsimp only; by_cases q : z = w; { rw [if_pos q, if_pos q] }; { rw [if_neg q, if_neg q]; exact hV z a (by omega) }), _, h.1, rfl⟩))
  · skip
    exact stepX hR (by decide) (ConL.mono (lxa_unsay X hX k jk m h2) (xm hR)) (fun m1 hI hr hz0 hz1 => Con.mono (n1_X5_unsay X hX k jk m1 h2) (fun o m2 h => ⟨h.2, _, h.1⟩))
set_option maxHeartbeats 4000000 in
set_option maxRecDepth 100000 in
theorem st_stir (X : jX) (hX : jxok X) (s : Int) (js : jr s) (m : jM) (hR : Rel m) : Step X m aTI aVI 59 yL_stir cL_stir 4 [(0, 9, 12, 15)] [vR 2 38, vI s, vR 2 59] yX5_stir cX5_stir 9 (some .int) [vR 2 51, vI s] := by
  obtain ⟨w, hw, hmw, hK, hV⟩ := hR.2.2.2.1
  have hw60 := hw.2.1
  have hwin := hw.2.2
  have hm0 := hw.1
  have hmm0 := hmw.2.1
  rcases Classical.em (1 ≤ s ∧ s ≤ 2147483646) with h2 | h2
  · skip
    have hst := stirN_ok (w := w) (s := s) (K := m 41) (V := m 42) (by omega) (fun z a b => (hwin z a b).1) (fun z a b => (hwin z a b).2) w (Nat.le_refl _)
    obtain ⟨-, -, q3, q4, q5⟩ := stirN_eqW (s := s) (w := w) (by omega) hK hV w (Nat.le_refl _)
    exact stepR (fun _ _ => aI) hR (hw60) (fun z a b => ⟨hst.2.1 z a b, hst.2.2 z a b⟩) (lc_stir X hX s h2 w m hR.C hw) (fun m1 hI h55 h56 h510 => Con.mono (c_X5_stir X hX s h2 w m1 (show mwok m1 w by unfold mwok; rw [h510, h55, h56]; exact hmw)) (fun o m2 h => by
      rw [h55, h56] at h
      exact ⟨_, _, h.2.1, h.2.2, q4, q5, _, h.1, by rw [q3]⟩))
  · skip
    exact stepX hR (by decide) (ConL.mono (lxa_stir X hX s js m h2) (xm hR)) (fun m1 hI hr hz0 hz1 => Con.mono (n1_X5_stir X hX s js m1 h2) (fun o m2 h => ⟨h.2, _, h.1⟩))
set_option maxHeartbeats 4000000 in
set_option maxRecDepth 100000 in
theorem st_play (X : jX) (hX : jxok X) (u : Int) (ju : jr u) (m : jM) (hR : Rel m) : Step X m aTI aVI 59 yL_play cL_play 4 [(0, 9, 12, 13)] [vR 2 38, vI u, vR 2 59] yX5_play cX5_play 3 (some .int) [vR 2 51, vI u] := by
  obtain ⟨w, hw, hmw, hK, hV⟩ := hR.2.2.2.1
  have hw60 := hw.2.1
  have hwin := hw.2.2
  have hm0 := hw.1
  have hmm0 := hmw.2.1
  rcases Classical.em (0 ≤ u ∧ u < 8) with h1 | h1
  · skip
    obtain ⟨u, rfl⟩ : ∃ n : Nat, u = n := ⟨u.toNat, by omega⟩
    have hu : u < 8 := by omega
    have he : playN (m 41) (m 42) w = playN (m 55) (m 56) w := playN_eqW w w (Nat.le_refl _) hK hV
    exact stepW (fun _ _ => aI) hR hu (playN_ok w (fun z a b => (hwin z a b).2)) (lc_play X hX u hu w m hR.C hw) (fun m1 hI hr h55 h56 h510 => Con.mono (c_X5_play X hX u hu w m1 hI (show mwok m1 w by unfold mwok; rw [h510, h55, h56]; exact hmw)) (fun o m2 h => by
      rw [h55, h56, ← he] at h
      exact ⟨_, h.2, eqR_rfl _, _, h.1, rfl⟩))
  · skip
    exact stepX hR (by decide) (ConL.mono (lxa_play X hX u ju m h1) (xm hR)) (fun m1 hI hr hz0 hz1 => Con.mono (n1_X5_play X hX u ju m1 h1) (fun o m2 h => ⟨h.2, _, h.1⟩))
set_option maxHeartbeats 4000000 in
set_option maxRecDepth 100000 in
theorem st_playLast (X : jX) (hX : jxok X) (u : Int) (ju : jr u) (b : Int) (jb : jr b) (m : jM) (hR : Rel m) : Step X m aTI aVI 59 yL_playLast cL_playLast 5 [(0, 10, 13, 13)] [vR 2 38, vI u, vI b, vR 2 59] yX5_playLast cX5_playLast 4 (some .int) [vR 2 51, vI u, vI b] := by
  obtain ⟨w, hw, hmw, hK, hV⟩ := hR.2.2.2.1
  have hw60 := hw.2.1
  have hwin := hw.2.2
  have hm0 := hw.1
  have hmm0 := hmw.2.1
  rcases Classical.em (0 ≤ u ∧ u < 8) with h1 | h1
  · skip
    obtain ⟨u, rfl⟩ : ∃ n : Nat, u = n := ⟨u.toNat, by omega⟩
    have hu : u < 8 := by omega
    have he : playN (m 41) (m 42) w = playN (m 55) (m 56) w := playN_eqW w w (Nat.le_refl _) hK hV
    exact stepW (fun _ _ => aI) hR hu (playN_ok w (fun z a b => (hwin z a b).2)) (lc_playLast X hX u hu b jb w m hR.C hw) (fun m1 hI hr h55 h56 h510 => Con.mono (c_X5_playLast X hX u hu b w m1 hI (show mwok m1 w by unfold mwok; rw [h510, h55, h56]; exact hmw)) (fun o m2 h => by
      rw [h55, h56, ← he] at h
      exact ⟨_, h.2, eqR_rfl _, _, h.1, rfl⟩))
  · skip
    exact stepX hR (by decide) (ConL.mono (lxa_playLast X hX u ju b jb m h1) (xm hR)) (fun m1 hI hr hz0 hz1 => Con.mono (n1_X5_playLast X hX u ju b m1 h1) (fun o m2 h => ⟨h.2, _, h.1⟩))
set_option maxHeartbeats 4000000 in
set_option maxRecDepth 100000 in
theorem st_undo (X : jX) (hX : jxok X) (m : jM) (hR : Rel m) : Step X m aTI aVI 59 yL_undo cL_undo 3 [(0, 8, 11, 69)] [vR 2 38, vR 2 59] yX5_undo cX5_undo 2 (some .int) [vR 2 51] := by
  rcases Classical.em (m 45 1 = 0) with h1 | h1
  · skip
    obtain ⟨nx, n, k1, k2, k3, k4, k5, k6⟩ := hR.2.2.2.2
    exact stepX hR (by decide) (ConL.mono (lxa_undo X hX m hR.C h1) (xm hR)) (fun m1 hI hr hz0 hz1 => Con.mono (n1_X5_undo X hX m1 (by rw [hz1, k5, ← k4]; exact h1)) (fun o m2 h => ⟨h.2, _, h.1⟩))
  · skip
    obtain ⟨nx, n, k1, k2, k3, k4, k5, k6⟩ := hR.2.2.2.2
    obtain ⟨c, rfl⟩ : ∃ c : Nat, n = c + 1 := ⟨n - 1, by omega⟩
    have hc8 : c < 8 := by omega
    obtain ⟨i1, -, k', i5, i6, i7⟩ := hR.I
    have hi7 := i7 c (by omega) (by omega)
    obtain ⟨t, ht⟩ : ∃ t : Nat, m 57 c = t := ⟨(m 57 c).toNat, by omega⟩
    have ht8 : t < 8 := by omega
    refine ⟨0, fun m1 => ∃ (m0 : jM) (l t : Nat), CB m m0 l t ∧ m1 = mset m0 59 0 (jnI t), by omega, lc_undo X hX m hR.C h1, fun m1 hq => ?_⟩
    obtain ⟨m0, l, t0, hB, e⟩ := hq
    obtain ⟨b1, b2, b3, b4, b5, b6, b7, b8, b9⟩ := id hB
    have ee : ∀ j : Nat, 51 ≤ j → j ≠ 59 → m1 j = m j := fun j a b => by rw [e, mset_ne b]; exact b9 j (by omega) (by omega) (by omega)
    have e51 := ee 51 (by decide) (by decide)
    have e57 := ee 57 (by decide) (by decide)
    refine Con.mono (c_X5_undo X hX c hc8 t ht8 m1 (MI_q hR.I (ee 52 (by decide) (by decide)) (ee 55 (by decide) (by decide)) (ee 56 (by decide) (by decide)) e57 (by rw [e51]) (by rw [e51])) (by rw [e51, k5]; omega) (by rw [e57]; exact ht)) (fun o m2 h => ?_)
    obtain ⟨h1, h2, h3⟩ := h
    obtain ⟨r1, r2⟩ := Rel_B hR hB e h2
    refine ⟨h3, r1, ⟨_, h1⟩, fun _ => ⟨_, h1, ?_⟩⟩
    obtain ⟨c1, c2, c3, c4, c5, c6, c7, c8, c9⟩ := h2
    rw [c5 59 (by decide) (by decide) (by decide) (by decide), e, mset_at, r2]
