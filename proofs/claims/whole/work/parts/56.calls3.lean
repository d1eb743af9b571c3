/-! what comes behind the counting -/
theorem rel_vain {B n k : Nat} {RA RI RC S : Nat → Int32} {dy vl db : Int32} (h : rel B n k RA RI RC dy vl db S) {a : Nat} (ha : a < n) (hB : B < 2 ^ 31 - 2) : rel (B + 1) n k (upd RA (iA a 3) (RA (iA a 3) + 1)) RI RC dy vl db (upd (upd S (iP a 3) (S (iP a 3) + 1)) 4 (S 4 + 1)) := by
  obtain ⟨⟨⟨hn, hk⟩, ⟨s0, s1, s2, s6, s7⟩, hdv⟩, hr', he, hi, hik, hz2, hc, hs⟩ := id h
  obtain ⟨⟨⟨r0, r1, r2, r3⟩, ⟨r4, r5, r9⟩, ⟨r6, r7⟩, r8⟩, ⟨k0, k1, k6, k2, k3⟩⟩ := hr' a ha
  refine rel_row (a := a) h (Nat.le_succ B) (fun b e c hc10 => ?_) (fun b e c hc10 => ?_) (fun i h1 c h2 => ?_) (fun x hx g hg c h3 => ?_) ?_ ha ?_ ?_ ?_
  · simp [u_AA, hc10, e]
  · simp [u_PP, u_nP, hc10, e]
  · simp [u_PW h1, u_nW, h2]
  · simp [u_PC hx hg, u_nC, h3]
  · simp [u_m, u_Pn]
  · unfold rowR
    simp [u_AA, u_PP, u_nP, r0, r1, r2, r3, r4, r5, r6, r7, r8, r9]
  · unfold rowK
    rw [u_nP (n := 4) (by decide), u_nP (n := 4) (by decide), u_nP (n := 4) (by decide), u_nP (n := 4) (by decide), u_nP (n := 4) (by decide), u_is, u_PP (by decide) (by decide), if_neg (by omega), u_PP (by decide) (by decide), if_neg (by omega), u_PP (by decide) (by decide), if_neg (by omega), u_PP (by decide) (by decide), if_neg (by omega)]
    exact ⟨k0, k1, k6, rng_le k2 (by omega), rng_inc k3 (by omega)⟩
  · refine ⟨?_, ?_, ?_⟩
    · have e3 : upd (upd S (iP a 3) (S (iP a 3) + 1)) 4 (S 4 + 1) 3 = S 3 := by simp [u_m, u_Pn]
      rw [e3, hs.1]
      exact sumF_eq n 0 (fun b _ _ => by simp [u_PP, u_nP])
    · rw [u_is, hs.2.1]
      refine (sumF_up (b := a) n 0 (Nat.zero_le _) (by omega) (fun b e => ?_) ?_).symm
      · simp [u_PP, u_nP, e]
      · simp [u_PP, u_nP]
    · have e5 : upd (upd S (iP a 3) (S (iP a 3) + 1)) 4 (S 4 + 1) 5 = S 5 := by simp [u_m, u_Pn]
      rw [e5, hs.2.2]
      exact sumF_eq n 0 (fun b _ _ => by simp [u_PP, u_nP])
/-- an outcome that is no interview -/
theorem rel_out {B n k : Nat} {RA RI RC S : Nat → Int32} {dy vl db : Int32} (h : rel B n k RA RI RC dy vl db S) {a : Nat} (ha : a < n) {o : Int32} (h6 : S (iP a 6) = 0) (h1 : ¬ S (iP a 1) = 1) (ho : ¬ o = 1) : rel B n k (upd RA (iA a 1) o) RI RC dy vl db (upd S (iP a 1) o) := by
  obtain ⟨⟨⟨hn, hk⟩, ⟨s0, s1, s2, s6, s7⟩, hdv⟩, hr', he, hi, hik, hz2, hc, hs⟩ := id h
  obtain ⟨⟨⟨r0, r1, r2, r3⟩, ⟨r4, r5, r9⟩, ⟨r6, r7⟩, r8⟩, ⟨k0, k1, k6, k2, k3⟩⟩ := hr' a ha
  refine rel_row (a := a) h (Nat.le_refl B) (fun b e c hc10 => ?_) (fun b e c hc10 => ?_) (fun i h1 c h2 => ?_) (fun x hx g hg c h3 => ?_) ?_ ha ?_ ?_ ?_
  · simp [u_AA, hc10, e]
  · simp [u_PP, hc10, e]
  · simp [u_PW h1, h2]
  · simp [u_PC hx hg, h3]
  · simp [u_Pn]
  · unfold rowR
    simp [u_AA, u_PP, r0, r2, r3, r4, r5, r6, r7, r8, r9, h1, ho]
  · unfold rowK
    rw [u_is, u_PP (by decide) (by decide), if_neg (by omega), u_PP (by decide) (by decide), if_neg (by omega), u_PP (by decide) (by decide), if_neg (by omega), u_PP (by decide) (by decide), if_neg (by omega)]
    exact ⟨k0, fun _ => h6, k6, k2, k3⟩
  · refine ⟨?_, ?_, ?_⟩
    · rw [u_Pn (by decide), hs.1]
      exact sumF_eq n 0 (fun b _ _ => by simp [u_PP])
    · rw [u_Pn (by decide), hs.2.1]
      exact sumF_eq n 0 (fun b _ _ => by simp [u_PP])
    · rw [u_Pn (by decide), hs.2.2]
      refine sumF_eq n 0 (fun b _ _ => ?_)
      by_cases e : b = a
      · subst e; simp [u_is, h1, ho]
      · simp [u_PP, e]
/-- the reference's own group of an address that has no interview -/
theorem rel_grp {B n k : Nat} {RA RI RC S : Nat → Int32} {dy vl db : Int32} (h : rel B n k RA RI RC dy vl db S) {a : Nat} (ha : a < n) {o : Int32} (h1 : ¬ S (iP a 1) = 1) : rel B n k RA RI RC dy vl db (upd S (iP a 8) o) := by
  obtain ⟨⟨⟨hn, hk⟩, ⟨s0, s1, s2, s6, s7⟩, hdv⟩, hr', he, hi, hik, hz2, hc, hs⟩ := id h
  obtain ⟨⟨⟨r0, r1, r2, r3⟩, ⟨r4, r5, r9⟩, ⟨r6, r7⟩, r8⟩, ⟨k0, k1, k6, k2, k3⟩⟩ := hr' a ha
  refine rel_row (a := a) h (Nat.le_refl B) (fun b e c hc10 => rfl) (fun b e c hc10 => ?_) (fun i h1 c h2 => ?_) (fun x hx g hg c h3 => ?_) ?_ ha ?_ ?_ ?_
  · simp [u_PP, hc10, e]
  · simp [u_PW h1, h2]
  · simp [u_PC hx hg, h3]
  · simp [u_Pn]
  · unfold rowR
    simp [u_PP, r0, r1, r2, r3, r4, r5, r6, r7, r8, r9, h1]
  · unfold rowK
    rw [u_PP (by decide) (by decide), if_neg (by omega), u_PP (by decide) (by decide), if_neg (by omega), u_PP (by decide) (by decide), if_neg (by omega), u_PP (by decide) (by decide), if_neg (by omega), u_PP (by decide) (by decide), if_neg (by omega)]
    exact ⟨k0, k1, k6, k2, k3⟩
  · refine ⟨?_, ?_, ?_⟩
    · rw [u_Pn (by decide), hs.1]
      exact sumF_eq n 0 (fun b _ _ => by simp [u_PP])
    · rw [u_Pn (by decide), hs.2.1]
      exact sumF_eq n 0 (fun b _ _ => by simp [u_PP])
    · rw [u_Pn (by decide), hs.2.2]
      exact sumF_eq n 0 (fun b _ _ => by simp [u_PP])
/-- an interview -/
theorem rel_int {B n k : Nat} {RA RI RC S : Nat → Int32} {dy vl db : Int32} (h : rel B n k RA RI RC dy vl db S) {a : Nat} (ha : a < n) {g : Int32} (h6 : S (iP a 6) = 0) (h1 : S (iP a 1) = 0) : rel B n k (upd (upd RA (iA a 1) 1) (iA a 8) g) RI RC dy vl db (upd (upd (upd S (iP a 1) 1) (iP a 8) g) 5 (S 5 + 1)) := by
  obtain ⟨⟨⟨hn, hk⟩, ⟨s0, s1, s2, s6, s7⟩, hdv⟩, hr', he, hi, hik, hz2, hc, hs⟩ := id h
  obtain ⟨⟨⟨r0, r1, r2, r3⟩, ⟨r4, r5, r9⟩, ⟨r6, r7⟩, r8⟩, ⟨k0, k1, k6, k2, k3⟩⟩ := hr' a ha
  refine rel_row (a := a) h (Nat.le_refl B) (fun b e c hc10 => ?_) (fun b e c hc10 => ?_) (fun i h1 c h2 => ?_) (fun x hx g hg c h3 => ?_) ?_ ha ?_ ?_ ?_
  · simp [u_AA, hc10, e]
  · simp [u_PP, u_nP, hc10, e]
  · simp [u_PW h1, u_nW, h2]
  · simp [u_PC hx hg, u_nC, h3]
  · simp [u_m, u_Pn]
  · unfold rowR
    simp [u_AA, u_PP, u_nP, r0, r2, r3, r4, r5, r6, r7, r9]
  · unfold rowK
    simp [u_PP, u_nP]
    exact ⟨k0, h6, k6, k2, k3⟩
  · refine ⟨?_, ?_, ?_⟩
    · have e3 : upd (upd (upd S (iP a 1) 1) (iP a 8) g) 5 (S 5 + 1) 3 = S 3 := by simp [u_m, u_Pn]
      rw [e3, hs.1]
      exact sumF_eq n 0 (fun b _ _ => by simp [u_PP, u_nP])
    · have e3 : upd (upd (upd S (iP a 1) 1) (iP a 8) g) 5 (S 5 + 1) 4 = S 4 := by simp [u_m, u_Pn]
      rw [e3, hs.2.1]
      exact sumF_eq n 0 (fun b _ _ => by simp [u_PP, u_nP])
    · rw [u_is, hs.2.2]
      refine (sumF_up (b := a) n 0 (Nat.zero_le _) (by omega) (fun b e => ?_) ?_).symm
      · simp [u_PP, u_nP, e]
      · simp [u_PP, u_nP, h1]
/-- an appointment -/
theorem rel_fix {B n k : Nat} {RA RI RC S : Nat → Int32} {dy vl db : Int32} (h : rel B n k RA RI RC dy vl db S) {a : Nat} (ha : a < n) {day t : Int32} (h1 : S (iP a 1) = 0) (hd : rng day 0 999) : rel B n k (upd (upd RA (iA a 6) day) (iA a 7) t) RI RC dy vl db (upd (upd S (iP a 6) (day + 1)) (iP a 7) t) := by
  obtain ⟨⟨⟨hn, hk⟩, ⟨s0, s1, s2, s6, s7⟩, hdv⟩, hr', he, hi, hik, hz2, hc, hs⟩ := id h
  obtain ⟨⟨⟨r0, r1, r2, r3⟩, ⟨r4, r5, r9⟩, ⟨r6, r7⟩, r8⟩, ⟨k0, k1, k6, k2, k3⟩⟩ := hr' a ha
  have ne := inc_ne (B := 999) hd (by decide)
  have e1 : day + 1 - 1 = day := by rw [Int32.sub_eq_add_neg, Int32.add_assoc, ← Int32.sub_eq_add_neg, Int32.sub_self, Int32.add_zero]
  refine rel_row (a := a) h (Nat.le_refl B) (fun b e c hc10 => ?_) (fun b e c hc10 => ?_) (fun i h1 c h2 => ?_) (fun x hx g hg c h3 => ?_) ?_ ha ?_ ?_ ?_
  · simp [u_AA, hc10, e]
  · simp [u_PP, hc10, e]
  · simp [u_PW h1, h2]
  · simp [u_PC hx hg, h3]
  · simp [u_Pn]
  · unfold rowR
    simp [u_AA, u_PP, r0, r1, r2, r3, r4, r5, r8, r9, ne, e1]
  · have f : ∀ c, c < 10 → ¬ c = 6 → ¬ c = 7 → upd (upd S (iP a 6) (day + 1)) (iP a 7) t (iP a c) = S (iP a c) := fun c h1 h2 h3 => by rw [u_PP h1 (by decide), if_neg (by omega), u_PP h1 (by decide), if_neg (by omega)]
    have f6 : upd (upd S (iP a 6) (day + 1)) (iP a 7) t (iP a 6) = day + 1 := by rw [u_PP (by decide) (by decide), if_neg (by omega), u_is]
    unfold rowK
    rw [f 0 (by decide) (by decide) (by decide), f 1 (by decide) (by decide) (by decide), f 2 (by decide) (by decide) (by decide), f 3 (by decide) (by decide) (by decide), f6]
    exact ⟨k0, fun q => absurd h1 q, rng_inc (B := 999) hd (by decide), k2, k3⟩
  · refine ⟨?_, ?_, ?_⟩
    · rw [u_Pn (by decide), u_Pn (by decide), hs.1]
      exact sumF_eq n 0 (fun b _ _ => by simp [u_PP])
    · rw [u_Pn (by decide), u_Pn (by decide), hs.2.1]
      exact sumF_eq n 0 (fun b _ _ => by simp [u_PP])
    · rw [u_Pn (by decide), u_Pn (by decide), hs.2.2]
      exact sumF_eq n 0 (fun b _ _ => by simp [u_PP])
/-- an interview more for an interviewer -/
theorem rel_took {B n k : Nat} {RA RI RC S : Nat → Int32} {dy vl db : Int32} (h : rel B n k RA RI RC dy vl db S) {w : Nat} (hw : w < 5) : rel B n k RA (upd RI (iI w 4) (RI (iI w 4) + 1)) RC dy vl db (upd S (iW w 4) (S (iW w 4) + 1)) := by
  obtain ⟨⟨⟨hn, hk⟩, ⟨s0, s1, s2, s6, s7⟩, hdv⟩, hr', he, hi, hik, hz2, hc, hs⟩ := id h
  refine rel_staff h (fun b c => u_WP hw (by decide)) (fun x hx g hg c h3 => u_WC hx hg h3) (fun j hj => u_Wn hj) (fun i h5 c h6 => ?_) (fun i h1 => ?_) (fun i h1 h2 => ?_)
  · rw [u_II h6 (by decide), u_WW h6 (by decide), hi i h5 c h6, hi w hw 4 (by decide)]
  · unfold stK
    rw [u_WW (by decide) (by decide), if_neg (by omega), u_WW (by decide) (by decide), if_neg (by omega), u_WW (by decide) (by decide), if_neg (by omega)]
    exact hik i h1
  · rw [u_WW (by decide) (by decide), if_neg (by omega)]
    exact hz2 i h1 h2
