/-! the words of the throws; Arrays.fill -/
theorem th_uo : jthr RX4 188 192 "java/lang/UnsupportedOperationException" ["java/lang/RuntimeException", "java/lang/Exception"] := ⟨by decide +kernel, by decide +kernel, by decide +kernel, by decide, by decide⟩
theorem th_ar : jthr RX4 227 231 "java/lang/ArithmeticException" ["java/lang/RuntimeException", "java/lang/Exception"] := ⟨by decide +kernel, by decide +kernel, by decide +kernel, by decide, by decide⟩
theorem th_ioob : jthr RX4 253 257 "java/lang/IndexOutOfBoundsException" ["java/lang/RuntimeException", "java/lang/Exception"] := ⟨by decide +kernel, by decide +kernel, by decide +kernel, by decide, by decide⟩
theorem th_iae : jthr RX4 258 262 "java/lang/IllegalArgumentException" ["java/lang/RuntimeException", "java/lang/Exception"] := ⟨by decide +kernel, by decide +kernel, by decide +kernel, by decide, by decide⟩
theorem th_ise : jthr RX4 272 276 "java/lang/IllegalStateException" ["java/lang/RuntimeException", "java/lang/Exception"] := ⟨by decide +kernel, by decide +kernel, by decide +kernel, by decide, by decide⟩
theorem g_alen {F : jF} {X : jX} {m : jM} {pc : Nat} {lv : List (Nat × jV)} {st : List jV} {own : String} {cc : ByteArray} {nl dp : Nat} {rt : Option FieldType} (hF : jOk F X own cc nl rt dp) (hd : decode cc pc = .ok (.arraylength, 1)) {r : Nat × Nat} (hr : jrr r) {n : Nat} (hn : rlen r = n) (k : jG F X m (pc + 1) lv (vI n :: st)) : jG F X m pc lv (.inr (.inl r) :: st) := by
  obtain ⟨h1, h2, h3⟩ := jrr_ir hr
  intro ls H locs hl hP hS
  have he : (wl X m)[cid r]? = some (xa X (cid r), .inl (xc X 0, n, .inl (jrow m (cid r)))) := by rw [wl_get X m h3, jcell_ir h1, h2, hn]
  refine va_alen hF.x hF.b hF.K hP (cid r) 0 he rfl rfl hd ?_
  have e : (Int32.ofNat n) = Int32.ofInt (n : Int) := Int32.ofInt_eq_ofNat.symm
  first
  | exact k ls H locs hl hP hS
  | (rw [e]; exact k ls H locs hl hP hS)
def jfilled (m : jM) (j : Nat) (v : Int) (i : Nat) : jM := mrow m j (fun z => if 0 ≤ z ∧ z < i then v else m j z)
set_option maxRecDepth 100000 in
theorem c_fill (X : jX) (hX : jxok X) (r : Nat × Nat) (hr : jrr r) (h257 : rlen r = 257) (v : Int) (m : jM) : Con X yJ7_fill_53178 cJ7_fill_53178 4 none 1 [.inr (.inl r), vI v] m (fun o m' => o = none ∧ m' = mrow m (cid r) (fun _ => v)) := by
  refine Con.of hX (by decide) (Nat.le_of_ble_eq_true rfl) (fun F hF hQ => ?_)
  refine g_iconst hF (by decide +kernel : decode cJ7_fill_53178 0 = .ok (.iconst 0, 1)) ?_
  refine g_istore_n hF (by decide +kernel : decode cJ7_fill_53178 1 = .ok (.istore_n 2, 1)) (by decide) ?_
  refine g_aload_n hF (by decide +kernel : decode cJ7_fill_53178 2 = .ok (.aload_n 0, 1)) rfl ?_
  refine g_alen hF (by decide +kernel : decode cJ7_fill_53178 3 = .ok (.arraylength, 1)) hr h257 ?_
  refine g_istore_n hF (by decide +kernel : decode cJ7_fill_53178 4 = .ok (.istore_n 3, 1)) (by decide) ?_
  have loop : ∀ (n i : Nat), i ≤ 257 → 258 ≤ i + n → jG F X (jfilled m (cid r) v i) 5 [(0, .inr (.inl r)), (1, vI v), (2, vI i), (3, vI 257)] [] := by
    intro n
    induction n with
    | zero => intro i h1 h2; exact absurd h2 (by omega)
    | succ n ih =>
      intro i h1 h2
      refine g_iload_n hF (by decide +kernel : decode cJ7_fill_53178 5 = .ok (.iload_n 2, 1)) rfl ?_
      refine g_iload_n hF (by decide +kernel : decode cJ7_fill_53178 6 = .ok (.iload_n 3, 1)) rfl ?_
      refine g_icmp_ge hF (tgt := 20) (by decide +kernel : decode cJ7_fill_53178 7 = .ok (.if_icmp .ge 13, 3)) (by decide) (by omega) (by decide) (fun c => ?_) (fun c => ?_)
      · refine g_eqv (m' := mrow m (cid r) (fun _ => v)) ?_ ?_
        · intro j hj z h0 h3
          unfold jfilled
          by_cases e : j = cid r
          · subst e
            have h4 : mlen (cid r) = 257 := by
              obtain ⟨h5, h6, h7⟩ := jrr_ir hr
              rw [← h257, ← h6]
              unfold jir at h5
              unfold mlen
              rw [if_neg (by omega), if_neg (by omega), if_neg (by omega), if_neg (by omega), if_neg (by omega), if_neg (by omega), if_neg (by omega), if_neg (by omega), if_neg (by omega), if_neg (by omega), if_neg (by omega)]
            rw [mrow_at, mrow_at, if_pos (by omega)]
          · rw [mrow_ne e, mrow_ne e]
        · exact g_return hF hQ (by decide +kernel : decode cJ7_fill_53178 20 = .ok (.return_, 1)) ⟨rfl, rfl⟩
      · refine g_aload_n hF (by decide +kernel : decode cJ7_fill_53178 10 = .ok (.aload_n 0, 1)) rfl ?_
        refine g_iload_n hF (by decide +kernel : decode cJ7_fill_53178 11 = .ok (.iload_n 2, 1)) rfl ?_
        refine g_iload_n hF (by decide +kernel : decode cJ7_fill_53178 12 = .ok (.iload_n 1, 1)) rfl ?_
        refine g_iastore hF (by decide +kernel : decode cJ7_fill_53178 13 = .ok (.iastore, 1)) hr h257 (by omega) ?_
        refine g_iinc hF (by decide +kernel : decode cJ7_fill_53178 14 = .ok (.iinc 2 1, 3)) rfl (by decide) ?_
        refine g_goto hF (tgt := 5) (by decide +kernel : decode cJ7_fill_53178 17 = .ok (.goto (-12), 3)) (by decide) ?_
        have e : mset (jfilled m (cid r) v i) (cid r) i v = jfilled m (cid r) v (i + 1) := by
          funext j z
          unfold mset jfilled mrow
          by_cases e : j = cid r
          · subst e
            rw [if_pos rfl, if_pos rfl]
            by_cases e2 : z = i
            · rw [if_pos ⟨rfl, e2⟩, if_pos (by omega)]
            · rw [if_neg (fun q => e2 q.2)]
              by_cases e3 : 0 ≤ z ∧ z < i
              · rw [if_pos e3, if_pos (by omega)]
              · rw [if_neg e3, if_neg (by omega)]
          · rw [if_neg (fun q => e q.1), if_neg e, if_neg e]
        rw [e]
        exact ih (i + 1) (by omega) (by omega)
  have h0 := loop 258 0 (by omega) (by omega)
  have e0 : jfilled m (cid r) v 0 = m := by
    funext j z
    unfold jfilled mrow
    by_cases e : j = cid r
    · subst e
      rw [if_pos rfl, if_neg (by omega)]
    · rw [if_neg e]
  rw [e0] at h0
  exact h0
