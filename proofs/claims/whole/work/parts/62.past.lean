/-! what depends on the cells within their bounds alone -/
theorem rel_cong {B n k : Nat} {RA RA' RI RI' RC RC' S S' : Nat → Int32} {dy vl db : Int32} (h : rel B n k RA RI RC dy vl db S) (fA : ∀ j, j < 240 → RA' j = RA j) (fI : ∀ j, j < 30 → RI' j = RI j) (fC : ∀ j, j < 36 → RC' j = RC j) (fS : ∀ j, j < 314 → S' j = S j) : rel B n k RA' RI' RC' dy vl db S' := by
  obtain ⟨⟨⟨hn, hk⟩, ⟨s0, s1, s2, s6, s7⟩, hdv⟩, hr, he, hi, hik, hz2, hc, hs⟩ := h
  refine ⟨⟨⟨hn, hk⟩, ⟨?_, ?_, ?_, ?_, ?_⟩, hdv⟩, fun a ha => ?_, fun a h1 h2 => ?_, fun i h1 => ?_, fun i h1 => ?_, fun i h1 h2 => ?_, fun y hy f hf => ?_, ?_⟩
  · rw [fS 0 (by decide)]; exact s0
  · rw [fS 1 (by decide)]; exact s1
  · rw [fS 2 (by decide)]; exact s2
  · rw [fS 6 (by decide)]; exact s6
  · rw [fS 7 (by decide)]; exact s7
  · exact ⟨rowR_fr (hr a ha).1 (fun c hc => fA _ (lA (by omega) hc)) (fun c hc => fS _ (lP (by omega) hc)), rowK_fr (hr a ha).2 (fun c hc => fS _ (lP (by omega) hc))⟩
  · exact rowE_fr (he a h1 h2) (fun c hc => fA _ (lA h2 hc)) (fun c hc => fS _ (lP h2 hc))
  · exact stR_fr (hi i h1) (fun c hc => fI _ (lI h1 hc)) (fun c hc => fS _ (lW h1 hc))
  · exact stK_fr (hik i h1) (fun c hc => fS _ (lW (by omega) hc))
  · rw [fS _ (lW h2 (by decide))]; exact hz2 i h1 h2
  · exact ⟨ceR_fr (hc y hy f hf).1 (fun c hc => fC _ (lD hy hf hc)) (fun c hc => fS _ (lC hy hf hc)), ceK_fr (hc y hy f hf).2 (fun c hc => fS _ (lC hy hf hc))⟩
  · exact sums_fr hs (fS 3 (by decide)) (fS 4 (by decide)) (fS 5 (by decide)) (fun a ha c hc => fS _ (lP (by omega) hc))
theorem relT_cong {B : Nat} {RA RA' RI RI' RC RC' S S' : Nat → Int32} {na ni dy vl db : Int32} (h : relT B RA RI RC na ni dy vl db S) (fA : ∀ j, j < 240 → RA' j = RA j) (fI : ∀ j, j < 30 → RI' j = RI j) (fC : ∀ j, j < 36 → RC' j = RC j) (fS : ∀ j, j < 314 → S' j = S j) : relT B RA' RI' RC' na ni dy vl db S' := by
  obtain ⟨n, k, e1, e2, h⟩ := h
  exact ⟨n, k, e1, e2, rel_cong h fA fI fC fS⟩
abbrev SV : Type := (Nat → Int32) × (Nat → Int32) × (Nat → Int32) × Int32 × Int32 × Int32 × Int32 × Int32
def relS (B : Nat) (T : SV) (S : Nat → Int32) : Prop := relT B T.1 T.2.1 T.2.2.1 T.2.2.2.1 T.2.2.2.2.1 T.2.2.2.2.2.1 T.2.2.2.2.2.2.1 T.2.2.2.2.2.2.2 S
theorem relS_cong {B : Nat} {T : SV} {S S' : Nat → Int32} (h : relS B T S) (fS : ∀ j, j < 314 → S' j = S j) : relS B T S' := relT_cong h (fun _ _ => rfl) (fun _ _ => rfl) (fun _ _ => rfl) fS
/-! copies -/
theorem tcopy_at {n : Nat} {A B : Nat → Int32} (hn : n < 2 ^ 31) {j : Nat} (hj : j < n) : fX6_copyFrom n A B j = B j := by
  have key : ∀ (m i : Nat) (Q : Nat → Int32), i + m = n → fX6_copyFrom_2 n A B (m + 1) (nI i) Q j = if i ≤ j then B j else Q j := by
    intro m
    induction m with
    | zero =>
      intro i Q e
      rw [fX6_copyFrom_2_s, if_pos (show Int32.ofNat n ≤ nI i from nI_le (by omega) (by omega)), if_neg (by omega)]
    | succ m ih =>
      intro i Q e
      have z : ¬ Int32.ofNat n ≤ nI i := nI_ge (by omega) hn
      rw [fX6_copyFrom_2_s, if_neg z, if_neg z, nI_1, nI_clamp (by omega), ih (i + 1) _ (by omega)]
      by_cases h1 : i + 1 ≤ j
      · rw [if_pos h1, if_pos (by omega)]
      · rw [if_neg h1]
        by_cases h2 : i = j
        · subst h2; rw [u_is, if_pos (Nat.le_refl _)]
        · rw [u_no (fun q => h2 q.symm), if_neg (by omega)]
  have e : ((Int32.ofNat n).toInt - (0 : Int32).toInt).toNat + 1 = n + 1 := fuel_eq hn
  unfold fX6_copyFrom
  rw [e]
  have := key n 0 A (by omega)
  rw [nI_0] at this
  rw [this, if_pos (Nat.zero_le _)]
theorem copy_rel {B : Nat} {RA RI RC SA SI SC S : Nat → Int32} {na ni dy vl db : Int32} (h : relT B SA SI SC na ni dy vl db S) : relS B (fX5_copyFrom RA RI RC SA SI SC na ni dy vl db) S := by
  unfold fX5_copyFrom
  simp only [bd_1]
  unfold relS
  dsimp only
  exact relT_cong h (fun j hj => tcopy_at (n := 240) (by decide) hj) (fun j hj => tcopy_at (n := 30) (by decide) hj) (fun j hj => tcopy_at (n := 36) (by decide) hj) (fun _ _ => rfl)
theorem begins_at {S Bg : Nat → Int32} {j : Nat} (hj : j < 314) : fX9_begins S Bg j = S j := by
  have key : ∀ (m i : Nat) (Q : Nat → Int32), i + m = 314 → fX9_begins_2 S Bg (m + 1) (nI i) Q j = if i ≤ j then S j else Q j := by
    intro m
    induction m with
    | zero =>
      intro i Q e
      rw [fX9_begins_2_s, if_pos (show (314 : Int32) ≤ nI i from nI_le (a := 314) (by omega) (by omega)), if_neg (by omega)]
    | succ m ih =>
      intro i Q e
      rw [fX9_begins_2_s, if_neg (show ¬ (314 : Int32) ≤ nI i from nI_ge (b := 314) (by omega) (by decide)), nI_1, nI_clamp (by omega), ih (i + 1) _ (by omega)]
      by_cases h1 : i + 1 ≤ j
      · rw [if_pos h1, if_pos (by omega)]
      · rw [if_neg h1]
        by_cases h2 : i = j
        · subst h2; rw [u_is, if_pos (Nat.le_refl _)]
        · rw [u_no (fun q => h2 q.symm), if_neg (by omega)]
  have e : ((314 : Int32).toInt - (0 : Int32).toInt).toNat + 1 = 315 := by decide
  unfold fX9_begins
  rw [e]
  have := key 314 0 Bg (by omega)
  rw [nI_0] at this
  rw [this, if_pos (Nat.zero_le _)]
theorem returns_at {S Bg : Nat → Int32} {j : Nat} (hj : j < 314) : fX9_returns S Bg j = Bg j := by
  have key : ∀ (m i : Nat) (Q : Nat → Int32), i + m = 314 → fX9_returns_2 S Bg (m + 1) (nI i) Q j = if i ≤ j then Bg j else Q j := by
    intro m
    induction m with
    | zero =>
      intro i Q e
      rw [fX9_returns_2_s, if_pos (show (314 : Int32) ≤ nI i from nI_le (a := 314) (by omega) (by omega)), if_neg (by omega)]
    | succ m ih =>
      intro i Q e
      rw [fX9_returns_2_s, if_neg (show ¬ (314 : Int32) ≤ nI i from nI_ge (b := 314) (by omega) (by decide)), nI_1, nI_clamp (by omega), ih (i + 1) _ (by omega)]
      by_cases h1 : i + 1 ≤ j
      · rw [if_pos h1, if_pos (by omega)]
      · rw [if_neg h1]
        by_cases h2 : i = j
        · subst h2; rw [u_is, if_pos (Nat.le_refl _)]
        · rw [u_no (fun q => h2 q.symm), if_neg (by omega)]
  have e : ((314 : Int32).toInt - (0 : Int32).toInt).toNat + 1 = 315 := by decide
  unfold fX9_returns
  rw [e]
  have := key 314 0 S (by omega)
  rw [nI_0] at this
  rw [this, if_pos (Nat.zero_le _)]
/-! the states before -/
theorem e314 {t x : Nat} (h : 314 * t + x < 2 ^ 31) : (314 * nI t + nI x).toNatClampNeg = 314 * t + x := by
  rw [show (314 : Int32) = nI 314 from rfl, pk_mul, nI_add, nI_clamp h]
theorem act57 {Bg Pa : Nat → Int32} {st answer : Int32} {t : Nat} (ht : t < 4) : ∀ (m i : Nat) (Q : Nat → Int32), i + m = 314 → ∃ Q', fX9_acted_57 Bg Pa st answer (m + 1) (nI i) Q (nI t) = (answer, Q', nI (t + 1)) ∧ ∀ j, Q' j = if 314 * t + i ≤ j ∧ j < 314 * t + 314 then Bg (j - 314 * t) else Q j := by
  intro m
  induction m with
  | zero =>
    intro i Q e
    refine ⟨Q, ?_, fun j => ?_⟩
    · rw [fX9_acted_57_s, if_pos (show (314 : Int32) ≤ nI i from nI_le (a := 314) (by omega) (by omega)), nI_1]
    · rw [if_neg (by omega)]
  | succ m ih =>
    intro i Q e
    obtain ⟨Q', h1, h2⟩ := ih (i + 1) (upd Q (314 * t + i) (Bg i)) (by omega)
    refine ⟨Q', ?_, fun j => ?_⟩
    · rw [fX9_acted_57_s, if_neg (show ¬ (314 : Int32) ≤ nI i from nI_ge (b := 314) (by omega) (by decide)), nI_1, e314 (by omega), nI_clamp (by omega), h1]
    · rw [h2 j]
      by_cases c1 : 314 * t + (i + 1) ≤ j ∧ j < 314 * t + 314
      · rw [if_pos c1, if_pos (by omega)]
      · rw [if_neg c1]
        by_cases c2 : j = 314 * t + i
        · subst c2; rw [u_is, if_pos (by omega), Nat.add_sub_cancel_left]
        · rw [u_no c2, if_neg (by omega)]
theorem act16 {Bg Pa : Nat → Int32} {st answer : Int32} (hst : st = 4) : ∀ (m i : Nat) (Q : Nat → Int32), i + m = 942 → ∃ Q1, fX9_acted_16 Bg Pa st answer (m + 1) (nI i) Q = fX9_acted_57 Bg Pa st answer 315 0 Q1 3 ∧ ∀ j, Q1 j = if i ≤ j ∧ j < 942 then Q (j + 314) else Q j := by
  intro m
  induction m with
  | zero =>
    intro i Q e
    refine ⟨Q, ?_, fun j => ?_⟩
    · have e1 : ((314 : Int32).toInt - (0 : Int32).toInt).toNat + 1 = 315 := by decide
      rw [fX9_acted_16_s, if_pos (show (942 : Int32) ≤ nI i from nI_le (a := 942) (by omega) (by omega)), e1, hst, show (4 : Int32) - 1 = 3 from by decide]
    · rw [if_neg (by omega)]
  | succ m ih =>
    intro i Q e
    obtain ⟨Q', h1, h2⟩ := ih (i + 1) (upd Q i (Q (i + 314))) (by omega)
    refine ⟨Q', ?_, fun j => ?_⟩
    · rw [fX9_acted_16_s, if_neg (show ¬ (942 : Int32) ≤ nI i from nI_ge (b := 942) (by omega) (by decide)), nI_1, show (314 : Int32) = nI 314 from rfl, nI_add, nI_clamp (by omega), nI_clamp (by omega), h1]
    · rw [h2 j]
      by_cases c1 : i + 1 ≤ j ∧ j < 942
      · rw [if_pos c1, if_pos (by omega), u_no (by omega)]
      · rw [if_neg c1]
        by_cases c2 : j = i
        · subst c2; rw [u_is, if_pos (by omega)]
        · rw [u_no c2, if_neg (by omega)]
def hrel (B f z : Nat) (HS : Nat → SV) (Pa : Nat → Int32) : Prop := f < 5 ∧ z ≤ 4 ∧ ∀ j, j < z → relS B (HS ((f + j) % 5)) (fun q => Pa (314 * j + q))
theorem hrel_le {B B' f z : Nat} {HS : Nat → SV} {Pa : Nat → Int32} (h : hrel B f z HS Pa) (hB : B ≤ B') : hrel B' f z HS Pa := ⟨h.1, h.2.1, fun j hj => relT_le (h.2.2 j hj) hB⟩
theorem mod5 : ∀ f : Nat, f < 5 → ∀ z : Nat, z < 5 → (nI f + nI z) - (nI f + nI z) / 5 * 5 = nI ((f + z) % 5) := by decide +kernel
theorem draft_eq {f z : Nat} (hf : f < 5) (hz : z < 5) (HS : Nat → SV) (RA RI RC : Nat → Int32) (na ni dy vl db : Int32) : fX1_draft (nI f) (nI z) HS RA RI RC na ni dy vl db = va_up HS ((f + z) % 5) (fX5_copyFrom ((HS ((f + z) % 5)).1) ((HS ((f + z) % 5)).2.1) ((HS ((f + z) % 5)).2.2.1) RA RI RC na ni dy vl db) := by
  unfold fX1_draft
  simp only [bd_1]
  rw [mod5 f hf z hz]
  have hs : (f + z) % 5 = 0 ∨ (f + z) % 5 = 1 ∨ (f + z) % 5 = 2 ∨ (f + z) % 5 = 3 ∨ (f + z) % 5 = 4 := by omega
  rcases hs with e | e | e | e | e <;> rw [e]
  · rw [if_pos (show nI 0 = 0 from rfl)]
  · rw [if_neg (by decide), if_pos (show nI 1 = 1 from rfl)]
  · rw [if_neg (by decide), if_neg (by decide), if_pos (show nI 2 = 2 from rfl)]
  · rw [if_neg (by decide), if_neg (by decide), if_neg (by decide), if_pos (show nI 3 = 3 from rfl)]
  · rw [if_neg (by decide), if_neg (by decide), if_neg (by decide), if_neg (by decide), if_pos (show nI 4 = 4 from rfl)]
theorem up_is {α : Type} {f : Nat → α} {k : Nat} {v : α} : va_up f k v k = v := if_pos rfl
theorem up_no {α : Type} {f : Nat → α} {k j : Nat} {v : α} (h : j ≠ k) : va_up f k v j = f j := if_neg h
/-- a change: the state ahead of it is written down, and kept where the answer is no fault -/
theorem sim_hist {B f z : Nat} {HS : Nat → SV} {Pa S Bg RA RI RC : Nat → Int32} {na ni dy vl db : Int32} (hh : hrel B f z HS Pa) (h : relT B RA RI RC na ni dy vl db S) (r : Int32) : ∃ f' z' Pa', fX1_settle (nI f) (nI z) r = (r, nI f', nI z') ∧ fX9_acted (fX9_begins S Bg) Pa (nI z) r = (r, Pa', nI z') ∧ hrel B f' z' (fX1_draft (nI f) (nI z) HS RA RI RC na ni dy vl db) Pa' := by
  obtain ⟨hf, hz, hj⟩ := hh
  rw [draft_eq hf (by omega)]
  have hnew := copy_rel (RA := (HS ((f + z) % 5)).1) (RI := (HS ((f + z) % 5)).2.1) (RC := (HS ((f + z) % 5)).2.2.1) h
  generalize fX5_copyFrom ((HS ((f + z) % 5)).1) ((HS ((f + z) % 5)).2.1) ((HS ((f + z) % 5)).2.2.1) RA RI RC na ni dy vl db = new at hnew ⊢
  have hbg : relS B new (fX9_begins S Bg) := relS_cong hnew (fun j hj => begins_at hj)
  generalize fX9_begins S Bg = Bg1 at hbg ⊢
  unfold fX1_settle fX9_acted
  have e1 : ((314 : Int32).toInt - (0 : Int32).toInt).toNat + 1 = 315 := by decide
  have e2 : ((942 : Int32).toInt - (0 : Int32).toInt).toNat + 1 = 943 := by decide
  rw [e1, e2]
  by_cases c : (0 : Int32) ≤ r
  · rw [if_pos c, if_pos c]
    by_cases c4 : z = 4
    · subst c4
      rw [if_pos (show (4 : Int32) ≤ nI 4 by decide), if_pos (show nI 4 = 4 from rfl)]
      obtain ⟨Q1, g1, g2⟩ := act16 (Bg := Bg1) (Pa := Pa) (st := nI 4) (answer := r) rfl 942 0 Pa (by omega)
      rw [nI_0] at g1
      obtain ⟨Q2, g3, g4⟩ := act57 (Bg := Bg1) (Pa := Pa) (st := nI 4) (answer := r) (t := 3) (by decide) 314 0 Q1 (by omega)
      rw [nI_0] at g3
      have g3' : fX9_acted_57 Bg1 Pa (nI 4) r 315 0 Q1 3 = (r, Q2, nI 4) := g3
      refine ⟨(f + 1) % 5, 4, Q2, ?_, ?_, by omega, by omega, fun j hj4 => ?_⟩
      · have := mod5 f hf 1 (by decide)
        rw [show nI 1 = (1 : Int32) from rfl] at this
        rw [this]
      · rw [g1, g3']
      · have ei : ((f + 1) % 5 + j) % 5 = (f + (j + 1)) % 5 := by omega
        rw [ei]
        by_cases c3 : j = 3
        · subst c3
          rw [up_is]
          refine relS_cong hbg (fun q hq => ?_)
          show Q2 (314 * 3 + q) = _
          rw [g4, if_pos (by omega), Nat.add_sub_cancel_left]
        · rw [up_no (by omega)]
          refine relS_cong (hj (j + 1) (by omega)) (fun q hq => ?_)
          show Q2 (314 * j + q) = Pa (314 * (j + 1) + q)
          rw [g4, if_neg (by omega), g2, if_pos (by omega)]
          exact congrArg Pa (show 314 * j + q + 314 = 314 * (j + 1) + q by omega)
    · rw [if_neg (show ¬ (4 : Int32) ≤ nI z from nI_ge (b := 4) (by omega) (by decide)), if_neg (show ¬ nI z = 4 from fun q => c4 ((nI_eq (b := 4) (by omega) (by decide)).mp q)), nI_1]
      obtain ⟨Q2, g3, g4⟩ := act57 (Bg := Bg1) (Pa := Pa) (st := nI z) (answer := r) (t := z) (by omega) 314 0 Pa (by omega)
      rw [nI_0] at g3
      refine ⟨f, z + 1, Q2, rfl, g3, hf, by omega, fun j hj1 => ?_⟩
      by_cases c3 : j = z
      · subst c3
        rw [up_is]
        refine relS_cong hbg (fun q hq => ?_)
        show Q2 (314 * j + q) = _
        rw [g4, if_pos (by omega), Nat.add_sub_cancel_left]
      · rw [up_no (by omega)]
        refine relS_cong (hj j (by omega)) (fun q hq => ?_)
        show Q2 (314 * j + q) = Pa (314 * j + q)
        rw [g4, if_neg (by omega)]
  · rw [if_neg c, if_neg c]
    refine ⟨f, z, Pa, rfl, rfl, hf, hz, fun j hj1 => ?_⟩
    rw [up_no (by omega)]
    exact hj j hj1
/-! back to the state before -/
theorem undo_m {S Pa : Nat → Int32} {z : Nat} (hz : z < 4) : ∃ S', fX9_undo S Pa (nI (z + 1)) = (nI z, S', nI z) ∧ ∀ j, j < 314 → S' j = Pa (314 * z + j) := by
  have key : ∀ (m i : Nat) (Q : Nat → Int32), i + m = 314 → ∃ Q', fX9_undo_22 S Pa (nI (z + 1)) (m + 1) (nI i) Q = (nI z, Q', nI z) ∧ ∀ j, j < 314 → Q' j = if i ≤ j then Pa (314 * z + j) else Q j := by
    intro m
    induction m with
    | zero =>
      intro i Q e
      refine ⟨Q, ?_, fun j hj => ?_⟩
      · rw [fX9_undo_22_s, if_pos (show (314 : Int32) ≤ nI i from nI_le (a := 314) (by omega) (by omega)), nI_pred]
      · rw [if_neg (by omega)]
    | succ m ih =>
      intro i Q e
      obtain ⟨Q', h1, h2⟩ := ih (i + 1) (upd Q i (Pa (314 * z + i))) (by omega)
      refine ⟨Q', ?_, fun j hj => ?_⟩
      · rw [fX9_undo_22_s, if_neg (show ¬ (314 : Int32) ≤ nI i from nI_ge (b := 314) (by omega) (by decide)), nI_1, nI_pred, nI_clamp (by omega), e314 (by omega), h1]
      · rw [h2 j hj]
        by_cases c1 : i + 1 ≤ j
        · rw [if_pos c1, if_pos (by omega)]
        · rw [if_neg c1]
          by_cases c2 : j = i
          · subst c2; rw [u_is, if_pos (by omega)]
          · rw [u_no c2, if_neg (by omega)]
  have e1 : ((314 : Int32).toInt - (0 : Int32).toInt).toNat + 1 = 315 := by decide
  obtain ⟨Q', g1, g2⟩ := key 314 0 S (by omega)
  rw [nI_0] at g1
  refine ⟨Q', ?_, fun j hj => by rw [g2 j hj, if_pos (Nat.zero_le _)]⟩
  unfold fX9_undo
  rw [if_neg (show ¬ nI (z + 1) = 0 from nI_ne0 (by omega) (by omega)), e1, g1]
theorem sim_undo {B f z : Nat} {HS : Nat → SV} {Pa S RA RI RC : Nat → Int32} {na ni dy vl db : Int32} (hh : hrel B f z HS Pa) (h : relT B RA RI RC na ni dy vl db S) : ∃ r z' T S', fX8_undo (nI f) (nI z) HS RA RI RC na ni dy vl db = (r, nI z', T) ∧ fX9_undo S Pa (nI z) = (r, S', nI z') ∧ relS B T S' ∧ hrel B f z' HS Pa := by
  obtain ⟨hf, hz, hj⟩ := id hh
  unfold fX8_undo
  simp only [bd_1]
  cases z with
  | zero =>
    have e1 : fX1_restore (nI f) (nI 0) HS RA RI RC na ni dy vl db = (-2, nI 0, RA, RI, RC, na, ni, dy, vl, db) := by
      unfold fX1_restore
      rw [if_neg (show ¬ (0 : Int32) < nI 0 by decide)]
    have e2 : fX9_undo S Pa (nI 0) = (-2, S, nI 0) := by
      unfold fX9_undo
      rw [if_pos (show nI 0 = 0 from rfl)]
    rw [e1, e2]
    exact ⟨-2, 0, (RA, RI, RC, na, ni, dy, vl, db), S, rfl, rfl, h, hh⟩
  | succ z =>
    obtain ⟨S', g1, g2⟩ := undo_m (S := S) (Pa := Pa) (z := z) (by omega)
    have hT := relS_cong (hj z (by omega)) (S' := S') (fun j hj => g2 j hj)
    have hT2 := copy_rel (RA := RA) (RI := RI) (RC := RC) hT
    have e1 : fX1_restore (nI f) (nI (z + 1)) HS RA RI RC na ni dy vl db = (nI z, nI z, fX5_copyFrom RA RI RC ((HS ((f + z) % 5)).1) ((HS ((f + z) % 5)).2.1) ((HS ((f + z) % 5)).2.2.1) ((HS ((f + z) % 5)).2.2.2.1) ((HS ((f + z) % 5)).2.2.2.2.1) ((HS ((f + z) % 5)).2.2.2.2.2.1) ((HS ((f + z) % 5)).2.2.2.2.2.2.1) ((HS ((f + z) % 5)).2.2.2.2.2.2.2)) := by
      unfold fX1_restore
      rw [if_pos (show (0 : Int32) < nI (z + 1) from nI_lt (a := 0) (by omega) (by omega)), nI_pred]
      simp only [bd_1]
      rw [mod5 f hf z (by omega)]
      have hs : (f + z) % 5 = 0 ∨ (f + z) % 5 = 1 ∨ (f + z) % 5 = 2 ∨ (f + z) % 5 = 3 ∨ (f + z) % 5 = 4 := by omega
      rcases hs with e | e | e | e | e <;> rw [e]
      · rw [if_pos (show nI 0 = 0 from rfl)]
      · rw [if_neg (by decide), if_pos (show nI 1 = 1 from rfl)]
      · rw [if_neg (by decide), if_neg (by decide), if_pos (show nI 2 = 2 from rfl)]
      · rw [if_neg (by decide), if_neg (by decide), if_neg (by decide), if_pos (show nI 3 = 3 from rfl)]
      · rw [if_neg (by decide), if_neg (by decide), if_neg (by decide), if_neg (by decide), if_pos (show nI 4 = 4 from rfl)]
    generalize fX5_copyFrom RA RI RC ((HS ((f + z) % 5)).1) ((HS ((f + z) % 5)).2.1) ((HS ((f + z) % 5)).2.2.1) ((HS ((f + z) % 5)).2.2.2.1) ((HS ((f + z) % 5)).2.2.2.2.1) ((HS ((f + z) % 5)).2.2.2.2.2.1) ((HS ((f + z) % 5)).2.2.2.2.2.2.1) ((HS ((f + z) % 5)).2.2.2.2.2.2.2) = T at hT2 e1
    rw [e1, g1]
    exact ⟨nI z, z, T, S', rfl, rfl, hT2, hf, by omega, fun j hj1 => hj j (by omega)⟩
