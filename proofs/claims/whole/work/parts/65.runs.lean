/-! a command's answer -/
theorem bd_5p {α β δ ε ζ γ : Type} (x : α × β × δ × ε × ζ) (f : α → β → δ → ε → ζ → γ) : bd5 x f = f x.1 x.2.1 x.2.2.1 x.2.2.2.1 x.2.2.2.2 := by rw [bd5]
theorem bd_6p {α β δ ε ζ η γ : Type} (x : α × β × δ × ε × ζ × η) (f : α → β → δ → ε → ζ → η → γ) : bd6 x f = f x.1 x.2.1 x.2.2.1 x.2.2.2.1 x.2.2.2.2.1 x.2.2.2.2.2 := by rw [bd6]
theorem numb_c {N : Nat → Int32} : fX4_number N 0 = N 0 ∧ fX4_number N 1 = N 1 ∧ fX4_number N 2 = N 2 ∧ fX4_number N 3 = N 3 ∧ fX4_number N 4 = N 4 := by
  unfold fX4_number
  refine ⟨?_, ?_, ?_, ?_, ?_⟩
  · rw [if_neg (by decide), if_neg (by decide)]; rfl
  · rw [if_neg (by decide), if_neg (by decide)]; rfl
  · rw [if_neg (by decide), if_neg (by decide)]; rfl
  · rw [if_neg (by decide), if_neg (by decide)]; rfl
  · rw [if_neg (by decide), if_neg (by decide)]; rfl
theorem sim_answer {B : Nat} {SA SI SC Z N Q : Nat → Int32} {na2 ni2 dy2 vl2 db2 : Int32} (h : relT B SA SI SC na2 ni2 dy2 vl2 db2 Z) (hB : B < 2 ^ 31 - 3) {k : Nat} (hk : k < 7) (hN : ∀ q, q < many k → N q = Q q) :
    (fX3_answerOf N SA SI SC na2 ni2 dy2 vl2 db2 k).1 = (execM Z (nI k) Q).1 ∧ relT (B + 2) (fX3_answerOf N SA SI SC na2 ni2 dy2 vl2 db2 k).2.1 (fX3_answerOf N SA SI SC na2 ni2 dy2 vl2 db2 k).2.2.1 (fX3_answerOf N SA SI SC na2 ni2 dy2 vl2 db2 k).2.2.2.1 (fX3_answerOf N SA SI SC na2 ni2 dy2 vl2 db2 k).2.2.2.2.1 ni2 (fX3_answerOf N SA SI SC na2 ni2 dy2 vl2 db2 k).2.2.2.2.2 vl2 db2 (execM Z (nI k) Q).2 := by
  obtain ⟨n, kk, rfl, rfl, h⟩ := h
  obtain ⟨b0, b1, b2, b3, b4⟩ := numb_c (N := N)
  have sw : ∀ k, k < 7 → Int32.ofNat ((Int32.ofNat k).toNatClampNeg + 1) = nI (k + 1) := fun k hk => by
    have : (Int32.ofNat k).toNatClampNeg = k := nI_clamp (by omega)
    rw [this]; rfl
  unfold fX3_answerOf
  simp only [bd_1]
  rw [sw k hk, b0, b1, b2, b3, b4]
  have hk7 : k = 0 ∨ k = 1 ∨ k = 2 ∨ k = 3 ∨ k = 4 ∨ k = 5 ∨ k = 6 := by omega
  rcases hk7 with rfl | rfl | rfl | rfl | rfl | rfl | rfl
  · rw [if_pos (show nI (0 + 1) = 1 from rfl), hN 0 (by decide), bd_3p]
    have e : execM Z (nI 0) Q = fX9_adds Z (Q 0) := by unfold execM; rw [if_pos (show nI 0 = 0 from rfl)]
    rw [e]
    have s := sim_adds h (Q 0)
    exact ⟨s.1, relT_le s.2 (by omega)⟩
  · rw [if_neg (show ¬ nI (1 + 1) = 1 by decide), if_pos (show nI (1 + 1) = 2 from rfl), hN 0 (by decide), hN 1 (by decide), hN 2 (by decide), bd_2p]
    have e : execM Z (nI 1) Q = fX9_limits Z (Q 0) (Q 1) (Q 2) := by unfold execM; rw [if_neg (show ¬ nI 1 = 0 by decide), if_pos (show nI 1 = 1 from rfl)]
    rw [e]
    have s := sim_quota h (Q 0) (Q 1) (Q 2)
    exact ⟨s.1, relT_le s.2 (by omega)⟩
  · rw [if_neg (show ¬ nI (2 + 1) = 1 by decide), if_neg (show ¬ nI (2 + 1) = 2 by decide), if_pos (show nI (2 + 1) = 3 from rfl), hN 0 (by decide), hN 1 (by decide), hN 2 (by decide), bd_4p]
    have e : execM Z (nI 2) Q = fX9_calls Z (Q 0) (Q 1) (Q 2) 0 := by unfold execM; rw [if_neg (show ¬ nI 2 = 0 by decide), if_neg (show ¬ nI 2 = 1 by decide), if_pos (show nI 2 = 2 from rfl), show nI 2 - 2 = 0 from by decide]
    rw [e]
    exact sim_call h (by omega) (Q 0) (Q 1) (Q 2) 0
  · rw [if_neg (show ¬ nI (3 + 1) = 1 by decide), if_neg (show ¬ nI (3 + 1) = 2 by decide), if_neg (show ¬ nI (3 + 1) = 3 by decide), if_pos (show nI (3 + 1) = 4 from rfl), hN 0 (by decide), hN 1 (by decide), hN 2 (by decide), bd_4p]
    have e : execM Z (nI 3) Q = fX9_calls Z (Q 0) (Q 1) (Q 2) 1 := by unfold execM; rw [if_neg (show ¬ nI 3 = 0 by decide), if_neg (show ¬ nI 3 = 1 by decide), if_neg (show ¬ nI 3 = 2 by decide), if_pos (show nI 3 = 3 from rfl), show nI 3 - 2 = 1 from by decide]
    rw [e]
    exact sim_call h (by omega) (Q 0) (Q 1) (Q 2) 1
  · rw [if_neg (show ¬ nI (4 + 1) = 1 by decide), if_neg (show ¬ nI (4 + 1) = 2 by decide), if_neg (show ¬ nI (4 + 1) = 3 by decide), if_neg (show ¬ nI (4 + 1) = 4 by decide), if_pos (show nI (4 + 1) = 5 from rfl), hN 0 (by decide), hN 1 (by decide), hN 2 (by decide), hN 3 (by decide), bd_4p]
    have e : execM Z (nI 4) Q = fX9_calls Z (Q 0) (Q 1) (Q 2) (2 + Q 3) := by unfold execM; rw [if_neg (show ¬ nI 4 = 0 by decide), if_neg (show ¬ nI 4 = 1 by decide), if_neg (show ¬ nI 4 = 2 by decide), if_neg (show ¬ nI 4 = 3 by decide), if_pos (show nI 4 = 4 from rfl), Int32.add_comm]
    rw [e]
    exact sim_call h (by omega) (Q 0) (Q 1) (Q 2) (2 + Q 3)
  · rw [if_neg (show ¬ nI (5 + 1) = 1 by decide), if_neg (show ¬ nI (5 + 1) = 2 by decide), if_neg (show ¬ nI (5 + 1) = 3 by decide), if_neg (show ¬ nI (5 + 1) = 4 by decide), if_neg (show ¬ nI (5 + 1) = 5 by decide), if_pos (show nI (5 + 1) = 6 from rfl), hN 0 (by decide), hN 1 (by decide), hN 2 (by decide), hN 3 (by decide), hN 4 (by decide), bd_3p]
    have e : execM Z (nI 5) Q = fX9_fixes Z (Q 0) (Q 1) (Q 2) (Q 3) (Q 4) := by unfold execM; rw [if_neg (show ¬ nI 5 = 0 by decide), if_neg (show ¬ nI 5 = 1 by decide), if_neg (show ¬ nI 5 = 2 by decide), if_neg (show ¬ nI 5 = 3 by decide), if_neg (show ¬ nI 5 = 4 by decide), if_pos (show nI 5 = 5 from rfl)]
    rw [e]
    exact sim_fix h (by omega) (Q 0) (Q 1) (Q 2) (Q 3) (Q 4)
  · rw [if_neg (show ¬ nI (6 + 1) = 1 by decide), if_neg (show ¬ nI (6 + 1) = 2 by decide), if_neg (show ¬ nI (6 + 1) = 3 by decide), if_neg (show ¬ nI (6 + 1) = 4 by decide), if_neg (show ¬ nI (6 + 1) = 5 by decide), if_neg (show ¬ nI (6 + 1) = 6 by decide), if_pos (show nI (6 + 1) = 7 from rfl), hN 0 (by decide), bd_3p]
    have e : execM Z (nI 6) Q = fX9_passes Z (Q 0) := by unfold execM; rw [if_neg (show ¬ nI 6 = 0 by decide), if_neg (show ¬ nI 6 = 1 by decide), if_neg (show ¬ nI 6 = 2 by decide), if_neg (show ¬ nI 6 = 3 by decide), if_neg (show ¬ nI 6 = 4 by decide), if_neg (show ¬ nI 6 = 5 by decide)]
    rw [e]
    have s := sim_pass h (Q 0)
    exact ⟨s.1, relT_le s.2 (by omega)⟩
/-! a run of commands -/
theorem run_loop {L : Nat} {g : Nat → Nat} {Cf Tx Nf : Nat → Int32} (h : trel L g Cf Tx) {vb : Option Nat} {pos : Int32} {RA RI RC SA SI SC S Nu : Nat → Int32} {na ni dy vl db na2 ni2 dy2 vl2 db2 : Int32} {fm : Bool} {rs : Int32} :
    ∀ (t j c fc fr B : Nat) (QN : Nat → Int32) (qv : Option Nat) (qp : Int32) (QA QI QC : Nat → Int32) (qa qi qd ql qb : Int32) (Z Q : Nat → Int32) (f : Bool) (rr : Int32), L ≤ j + t → j ≤ L → c ≤ j → 80 < c + fc → L < j + fr → B + 2 * t < 2 ^ 31 - 3 → relT B QA QI QC qa qi qd ql qb Z →
    (∃ c' p N v q QA' QI' QC' qa' qi' qd' ql' qb' Z' Q' u f' rr', c' ≤ 80 ∧ fX3_run_25 Cf Nf (nI L) vb pos RA RI RC na ni dy vl db SA SI SC na2 ni2 dy2 vl2 db2 fc (nI c) (nI c) (nI j) QN qv qp QA QI QC qa qi qd ql qb = (nI c', p, 0, N, v, q, QA', QI', QC', qa', qi', qd', ql', qb') ∧ fX9_does_7 S Tx Nu (nI L) fm rs fr (nI c) Z Q (nI j) f rr = (-1 - nI c', Z', Q', u, f', rr') ∧ relT (B + 2 * t) QA' QI' QC' qa' qi' qd' ql' qb' Z') ∨
    (∃ (c' : Int32) (p : Nat), ∃ N v q QA' QI' QC' qa' qi' qd' ql' qb' Z' Q' u f' r, p ≤ 80 ∧ 1 ≤ r ∧ r ≤ 3 ∧ fX3_run_25 Cf Nf (nI L) vb pos RA RI RC na ni dy vl db SA SI SC na2 ni2 dy2 vl2 db2 fc (nI c) (nI c) (nI j) QN qv qp QA QI QC qa qi qd ql qb = (c', nI p, nI r, N, v, q, QA', QI', QC', qa', qi', qd', ql', qb') ∧ fX9_does_7 S Tx Nu (nI L) fm rs fr (nI c) Z Q (nI j) f rr = (nI p, Z', Q', u, f', nI r)) := by
  have hL := h.1
  intro t
  induction t with
  | zero =>
    intro j c fc fr B QN qv qp QA QI QC qa qi qd ql qb Z Q f rr h1 h2 h3 h4 h5 h6 hr
    obtain ⟨fc, rfl⟩ : ∃ q, fc = q + 1 := ⟨fc - 1, by omega⟩
    obtain ⟨fr, rfl⟩ : ∃ q, fr = q + 1 := ⟨fr - 1, by omega⟩
    refine Or.inl ⟨c, nI j, QN, qv, qp, QA, QI, QC, qa, qi, qd, ql, qb, Z, Q, nI j, f, rr, by omega, ?_, ?_, hr⟩
    · rw [fX3_run_25_s]
      unfold fX4_length
      simp only [bd_1]
      by_cases c80 : (80 : Int32) ≤ nI c
      · rw [if_pos c80]
      · rw [if_neg c80, if_pos (show nI L ≤ nI j from nI_le (by omega) (by omega))]
    · rw [fX9_does_7_s, if_pos (show nI L ≤ nI j from nI_le (by omega) (by omega))]
  | succ t ih =>
    intro j c fc fr B QN qv qp QA QI QC qa qi qd ql qb Z Q f rr h1 h2 h3 h4 h5 h6 hr
    obtain ⟨fc, rfl⟩ : ∃ q, fc = q + 1 := ⟨fc - 1, by omega⟩
    obtain ⟨fr, rfl⟩ : ∃ q, fr = q + 1 := ⟨fr - 1, by omega⟩
    by_cases hend : j = L
    · refine Or.inl ⟨c, nI j, QN, qv, qp, QA, QI, QC, qa, qi, qd, ql, qb, Z, Q, nI j, f, rr, by omega, ?_, ?_, relT_le hr (by omega)⟩
      · rw [fX3_run_25_s]
        unfold fX4_length
        simp only [bd_1]
        by_cases c80 : (80 : Int32) ≤ nI c
        · rw [if_pos c80]
        · rw [if_neg c80, if_pos (show nI L ≤ nI j from nI_le (by omega) (by omega))]
      · rw [fX9_does_7_s, if_pos (show nI L ≤ nI j from nI_le (by omega) (by omega))]
    · have hjL : j < L := by omega
      rw [fX3_run_25_s, if_neg (show ¬ (80 : Int32) ≤ nI c from nI_ge (b := 80) (by omega) (by decide)), fX9_does_7_s, if_neg (show ¬ nI L ≤ nI j from nI_ge hjL (by omega))]
      unfold fX4_length fX4_verb fX4_position
      simp only [bd_1]
      rw [if_neg (show ¬ nI L ≤ nI j from nI_ge hjL (by omega))]
      rcases cmd_eq (S := Z) (Nf := QN) (Nu := Q) h (j := j) (by omega) with ⟨k, N', Q', e, hk, hje, heL, e1, e2, e3⟩ | ⟨N', v, u, r, Z', Q', u2, e1, e2⟩
      · have A := sim_answer hr (by omega) hk e3
        rw [e1, e2, bd_4p, bd_5p]
        dsimp only
        rw [if_pos rfl, if_pos rfl, bdo_s]
        rw [← A.1]
        generalize fX3_answerOf N' QA QI QC qa qi qd ql qb k = W at A ⊢
        obtain ⟨r, WA, WI, WC, wa, wd⟩ := W
        dsimp only at A ⊢
        by_cases r0 : (0 : Int32) ≤ r
        · have rn : ¬ r = -1 := fun z => by rw [z] at r0; exact absurd r0 (by decide)
          rw [if_pos r0, if_neg rn, if_pos r0, nI_1]
          have := ih e (c + 1) fc fr (B + 2) N' (some k) (nI e) WA WI WC wa qi wd ql qb (execM Z (nI k) Q').2 Q' true 0 (by omega) heL (by omega) (by omega) (by omega) (by omega) A.2
          rcases this with ⟨c', p, N, v, q, QA', QI', QC', qa', qi', qd', ql', qb', Z', Q'', u, f', rr', g0, g1, g2, g3⟩ | g
          · exact Or.inl ⟨c', p, N, v, q, QA', QI', QC', qa', qi', qd', ql', qb', Z', Q'', u, f', rr', g0, g1, g2, relT_le g3 (by omega)⟩
          · exact Or.inr g
        · rw [if_neg r0]
          by_cases rm : r = -1
          · rw [if_pos rm, if_pos rm]
            exact Or.inr ⟨_, j, _, _, _, _, _, _, _, _, _, _, _, _, _, _, _, 2, by omega, by decide, by decide, rfl, rfl⟩
          · rw [if_neg rm, if_neg rm, if_neg r0]
            exact Or.inr ⟨_, j, _, _, _, _, _, _, _, _, _, _, _, _, _, _, _, 3, by omega, by decide, by decide, rfl, rfl⟩
      · rw [e1, e2, bd_4p, bd_5p]
        dsimp only
        rw [if_neg (by decide), if_neg (by decide)]
        exact Or.inr ⟨_, j, _, _, _, _, _, _, _, _, _, _, _, _, _, _, _, 1, by omega, by decide, by decide, rfl, rfl⟩
