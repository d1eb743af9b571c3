theorem u_m {A : Nat → Int32} {v : Int32} {m n : Nat} (hm : m < 8) : upd A m v n = if n = m then v else A n := by rw [upd]
theorem rng_0k : rng 0 0 1000 := ⟨by decide, by decide⟩
/-! one row of an address changes -/
theorem rel_row {B B' n k : Nat} {RA RA' RI RC S S' : Nat → Int32} {dy vl db : Int32} (h : rel B n k RA RI RC dy vl db S) {a : Nat} (hB : B ≤ B') (fA : ∀ b, b ≠ a → ∀ c, c < 10 → RA' (iA b c) = RA (iA b c)) (fP : ∀ b, b ≠ a → ∀ c, c < 10 → S' (iP b c) = S (iP b c)) (fW : ∀ i, i < 5 → ∀ c, c < 6 → S' (iW i c) = S (iW i c)) (fC : ∀ x, x < 4 → ∀ g, g < 3 → ∀ c, c < 3 → S' (iC x g c) = S (iC x g c)) (fn : S' 0 = S 0 ∧ S' 1 = S 1 ∧ S' 2 = S 2 ∧ S' 6 = S 6 ∧ S' 7 = S 7) (ha : a < n) (hr : rowR RA' S' a) (hK : rowK S' B' a) (hs : sums S' n) : rel B' n k RA' RI RC dy vl db S' := by
  obtain ⟨⟨hnk, ⟨s0, s1, s2, s6, s7⟩, hdv⟩, hr', he, hi, hik, hz2, hc, -⟩ := h
  obtain ⟨f0, f1, f2, f6, f7⟩ := fn
  refine ⟨⟨hnk, ⟨by rw [f0]; exact s0, by rw [f1]; exact s1, by rw [f2]; exact s2, by rw [f6]; exact s6, by rw [f7]; exact s7⟩, hdv⟩, fun b hb => ?_, fun b h1 h2 => ?_, fun i h1 => ?_, fun i h1 => ?_, fun i h1 h2 => ?_, fun x hx g hg => ?_, hs⟩
  · by_cases e : b = a
    · subst e; exact ⟨hr, hK⟩
    · exact ⟨rowR_fr (hr' b hb).1 (fA b e) (fP b e), rowK_le (rowK_fr (hr' b hb).2 (fP b e)) hB⟩
  · exact rowE_fr (he b h1 h2) (fA b (by omega)) (fP b (by omega))
  · exact stR_fr (hi i h1) (fun _ _ => rfl) (fW i h1)
  · exact stK_fr (hik i h1) (fW i (by omega))
  · rw [fW i h2 2 (by decide)]; exact hz2 i h1 h2
  · exact ⟨ceR_fr (hc x hx g hg).1 (fun _ _ => rfl) (fC x hx g hg), ceK_fr (hc x hx g hg).2 (fC x hx g hg)⟩
/-- an interviewer's numbers change -/
theorem rel_staff {B n k : Nat} {RA RI RI' RC S S' : Nat → Int32} {dy vl db : Int32} (h : rel B n k RA RI RC dy vl db S) (fP : ∀ b c, S' (iP b c) = S (iP b c)) (fC : ∀ x, x < 4 → ∀ g, g < 3 → ∀ c, c < 3 → S' (iC x g c) = S (iC x g c)) (fn : ∀ j, j < 8 → S' j = S j) (hi : ∀ i, i < 5 → stR RI' S' i) (hik : ∀ i, i < k → stK S' i) (hz : ∀ i, k ≤ i → i < 5 → S' (iW i 2) = 0) : rel B n k RA RI' RC dy vl db S' := by
  obtain ⟨⟨hnk, ⟨s0, s1, s2, s6, s7⟩, hdv⟩, hr', he, -, -, -, hc, hs⟩ := h
  refine ⟨⟨hnk, ⟨by rw [fn 0 (by decide)]; exact s0, by rw [fn 1 (by decide)]; exact s1, by rw [fn 2 (by decide)]; exact s2, by rw [fn 6 (by decide)]; exact s6, by rw [fn 7 (by decide)]; exact s7⟩, hdv⟩, fun b hb => ?_, fun b h1 h2 => ?_, hi, hik, hz, fun x hx g hg => ?_, ?_⟩
  · exact ⟨rowR_fr (hr' b hb).1 (fun _ _ => rfl) (fun c _ => fP b c), rowK_fr (hr' b hb).2 (fun c _ => fP b c)⟩
  · exact rowE_fr (he b h1 h2) (fun _ _ => rfl) (fun c _ => fP b c)
  · exact ⟨ceR_fr (hc x hx g hg).1 (fun _ _ => rfl) (fC x hx g hg), ceK_fr (hc x hx g hg).2 (fC x hx g hg)⟩
  · exact sums_fr hs (fn 3 (by decide)) (fn 4 (by decide)) (fn 5 (by decide)) (fun a _ c _ => fP a c)
/-- the address's part of a call -/
theorem rel_cntA {B n k : Nat} {RA RI RC S : Nat → Int32} {dy vl db time who : Int32} (h : rel B n k RA RI RC dy vl db S) {a : Nat} (ha : a < n) (hB : B < 2 ^ 31 - 2) : rel (B + 1) n k (cntA RA a dy time who) RI RC dy vl db (upd (upd (upd (upd (upd (upd S (iP a 2) (S (iP a 2) + 1)) (iP a 4) dy) (iP a 5) time) (iP a 6) 0) (iP a 9) who) 3 (S 3 + 1)) := by
  obtain ⟨⟨⟨hn, hk⟩, ⟨s0, s1, s2, s6, s7⟩, hdv⟩, hr', he, hi, hik, hz2, hc, hs⟩ := id h
  obtain ⟨⟨⟨r0, r1, r2, r3⟩, ⟨r4, r5, r9⟩, ⟨r6, r7⟩, r8⟩, ⟨k0, k1, k6, k2, k3⟩⟩ := hr' a ha
  have ne := inc_ne k2 (by omega)
  refine rel_row (a := a) h (Nat.le_succ B) (fun b e c hc10 => ?_) (fun b e c hc10 => ?_) (fun i h1 c h2 => ?_) (fun x hx g hg c h3 => ?_) ?_ ha ?_ ?_ ?_
  · unfold cntA; simp [u_AA, hc10, e]
  · simp [u_PP, u_nP, hc10, e]
  · simp [u_PW h1, u_nW, h2]
  · simp [u_PC hx hg, u_nC, h3]
  · simp [u_m, u_Pn]
  · unfold rowR cntA
    simp [u_AA, u_PP, u_nP, r0, r1, r2, r3, r8, ne]
  · unfold rowK
    simp [u_PP, u_nP]
    exact ⟨k0, rng_0k, rng_inc k2 (by omega), rng_le k3 (by omega)⟩
  · refine ⟨?_, ?_, ?_⟩
    · rw [u_is, hs.1]
      refine (sumF_up (b := a) n 0 (Nat.zero_le _) (by omega) (fun b e => ?_) ?_).symm
      · simp [u_PP, u_nP, e]
      · simp [u_PP, u_nP]
    · have e4 : upd (upd (upd (upd (upd (upd S (iP a 2) (S (iP a 2) + 1)) (iP a 4) dy) (iP a 5) time) (iP a 6) 0) (iP a 9) who) 3 (S 3 + 1) 4 = S 4 := by simp [u_m, u_Pn]
      rw [e4, hs.2.1]
      exact sumF_eq n 0 (fun b _ _ => by simp [u_PP, u_nP])
    · have e5 : upd (upd (upd (upd (upd (upd S (iP a 2) (S (iP a 2) + 1)) (iP a 4) dy) (iP a 5) time) (iP a 6) 0) (iP a 9) who) 3 (S 3 + 1) 5 = S 5 := by simp [u_m, u_Pn]
      rw [e5, hs.2.2]
      exact sumF_eq n 0 (fun b _ _ => by simp [u_PP, u_nP])
/-- writes at different places change their order -/
theorem upd_c {A : Nat → Int32} {i j : Nat} {v w : Int32} (h : i ≠ j) : upd (upd A i v) j w = upd (upd A j w) i v := by
  funext q
  unfold upd
  by_cases h1 : q = j
  · rw [if_pos h1, if_neg (fun e => h (by rw [← e, h1])), if_pos h1]
  · rw [if_neg h1, if_neg h1]
theorem upd_id {A : Nat → Int32} {i : Nat} {v : Int32} (h : A i = v) : upd A i v = A := by
  funext q
  unfold upd
  by_cases h1 : q = i
  · rw [if_pos h1, h1, h]
  · rw [if_neg h1]
theorem W3 {i c : Nat} : iW i c ≠ 3 := by unfold iW; omega
theorem cntS_eq {S : Nat → Int32} {w a : Nat} {time dy : Int32} (s2 : S 2 = dy) : cntS S w a time = upd (upd (upd (upd (upd (upd (upd (upd (upd S (iP a 2) (S (iP a 2) + 1)) (iP a 4) dy) (iP a 5) time) (iP a 6) 0) (iP a 9) (nI w)) 3 (S 3 + 1)) (iW w 2) (S (iW w 2) + 1)) (iW w 3) (S (iW w 3) + 1)) (iW w 5) (S (iW w 5) + (if S (iW w 0) = S (iP a 0) then 0 else 1)) := by
  unfold cntS
  rw [s2, upd_c (i := iW w 5) (j := 3) W3, upd_c (i := iW w 3) (j := 3) W3, upd_c (i := iW w 2) (j := 3) W3]
theorem rel_counts {B n k : Nat} {RA RI RC S : Nat → Int32} {dy vl db time : Int32} (h : rel B n k RA RI RC dy vl db S) {w a : Nat} (hw : w < k) (ha : a < n) (hB : B < 2 ^ 31 - 2) (hm : S (iW w 2) < S (iW w 1)) : rel (B + 1) n k (cntA RA a dy time (nI w)) (cntI RI w (RA (iA a 0))) RC dy vl db (cntS S w a time) := by
  have h' := rel_cntA (time := time) (who := nI w) h ha hB
  obtain ⟨⟨⟨hn, hk⟩, ⟨s0, s1, s2, s6, s7⟩, hdv⟩, hr', he, hi, hik, hz2, hc, hs⟩ := id h
  have r0 := (hr' a ha).1.1.1
  have hw5 : w < 5 := by omega
  rw [cntS_eq s2]
  have rd : ∀ i, i < 5 → ∀ c, c < 6 → upd (upd (upd (upd (upd (upd (upd (upd (upd S (iP a 2) (S (iP a 2) + 1)) (iP a 4) dy) (iP a 5) time) (iP a 6) 0) (iP a 9) (nI w)) 3 (S 3 + 1)) (iW w 2) (S (iW w 2) + 1)) (iW w 3) (S (iW w 3) + 1)) (iW w 5) (S (iW w 5) + (if S (iW w 0) = S (iP a 0) then 0 else 1)) (iW i c) = if i = w ∧ c = 5 then S (iW w 5) + (if S (iW w 0) = S (iP a 0) then 0 else 1) else if i = w ∧ c = 3 then S (iW w 3) + 1 else if i = w ∧ c = 2 then S (iW w 2) + 1 else S (iW i c) := fun i h5 c h6 => by
    rw [u_WW h6 (by decide), u_WW h6 (by decide), u_WW h6 (by decide), u_nW (n := 3) (by decide), u_PW h5 h6, u_PW h5 h6, u_PW h5 h6, u_PW h5 h6, u_PW h5 h6]
  refine rel_staff h' (fun b c => ?_) (fun x hx g hg c h3 => ?_) (fun j hj => ?_) (fun i h5 c h6 => ?_) (fun i h1 => ?_) (fun i h1 h2 => ?_)
  · rw [u_WP hw5 (by decide), u_WP hw5 (by decide), u_WP hw5 (by decide)]
  · rw [u_WC hx hg h3, u_WC hx hg h3, u_WC hx hg h3]
  · rw [u_Wn hj, u_Wn hj, u_Wn hj]
  · rw [rd i h5 c h6]
    have rI : ∀ c, c < 6 → RI (iI w c) = S (iW w c) := fun c h => hi w hw5 c h
    unfold cntI
    rw [rI 0 (by decide), r0, rI 2 (by decide), rI 3 (by decide), rI 5 (by decide)]
    by_cases e : S (iW w 0) = S (iP a 0)
    · rw [if_pos e, if_pos e, Int32.add_zero, u_II h6 (by decide), u_II h6 (by decide), hi i h5 c h6]
      by_cases q : i = w ∧ c = 5
      · obtain ⟨rfl, rfl⟩ := q
        simp
      · rw [if_neg q]
    · rw [if_neg e, if_neg e, u_II h6 (by decide), u_II h6 (by decide), u_II h6 (by decide), hi i h5 c h6]
  · unfold stK
    rw [rd i (by omega) 0 (by decide), rd i (by omega) 1 (by decide), rd i (by omega) 2 (by decide)]
    have z := hik i h1
    by_cases e : i = w
    · subst e
      rw [if_neg (show ¬ (i = i ∧ 0 = 5) by omega), if_neg (show ¬ (i = i ∧ 0 = 3) by omega), if_neg (show ¬ (i = i ∧ 0 = 2) by omega), if_neg (show ¬ (i = i ∧ 1 = 5) by omega), if_neg (show ¬ (i = i ∧ 1 = 3) by omega), if_neg (show ¬ (i = i ∧ 1 = 2) by omega), if_neg (show ¬ (i = i ∧ 2 = 5) by omega), if_neg (show ¬ (i = i ∧ 2 = 3) by omega), if_pos (show i = i ∧ 2 = 2 from ⟨rfl, rfl⟩)]
      obtain ⟨z1, z2, z3, z4⟩ := z
      have hm' := Int32.lt_iff_toInt_lt.mp hm
      have := ti_inc (x := S (iW i 2)) (B := 9) ⟨z3, by have := z2.2; omega⟩ (by decide)
      exact ⟨z1, z2, by rw [this]; omega, by rw [this]; omega⟩
    · simp [e]
      exact z
  · rw [rd i h2 2 (by decide)]
    have e : ¬ i = w := by omega
    simp [e]
    exact hz2 i h1 h2
