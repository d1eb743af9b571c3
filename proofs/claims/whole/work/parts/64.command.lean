/-! numbers and commands -/
theorem num_g {L : Nat} {g : Nat → Nat} {Cf Tx Nf : Nat → Int32} (h : trel L g Cf Tx) {pos ps : Int32} {q : Nat} (hq : q < 5) {fm f : Bool} : ∀ (m i p : Nat) (v : Int32), i + m = 3 → p < 1000 → ∃ v' d p', p ≤ p' ∧ p' ≤ p + m ∧ fX4_readNumber_4 Cf Nf (nI L) pos (nI q) (m + 1) v (nI i) (nI p) = (d, upd Nf q v', nI p') ∧ fX9_readNumber_10 Tx (nI L) ps fm (m + 1) v (nI i) (nI p) f = (v', nI p', f && d) := by
  have stop : ∀ (i p : Nat) (v : Int32), i ≤ 3 → p < 1003 → ∃ v' d p', p ≤ p' ∧ p' ≤ p ∧ (if nI q < 0 then (if nI i ≤ 0 then (false, Nf, nI p) else (true, Nf, nI p)) else (if Int32.ofNat 5 ≤ nI q then (if nI i ≤ 0 then (false, Nf, nI p) else (true, Nf, nI p)) else (if nI i ≤ 0 then (false, upd Nf (nI q).toNatClampNeg v, nI p) else (true, upd Nf (nI q).toNatClampNeg v, nI p)))) = (d, upd Nf q v', nI p') ∧ (if f = true then (if nI i ≤ 0 then (v, nI p, false) else (v, nI p, true)) else (v, nI p, false)) = (v', nI p', f && d) := by
    intro i p v hi hp
    rw [if_neg (show ¬ nI q < 0 from nI_pos (by omega)), if_neg (show ¬ Int32.ofNat 5 ≤ nI q from nI_ge (b := 5) hq (by decide)), nI_clamp (by omega)]
    by_cases c : nI i ≤ 0
    · rw [if_pos c, if_pos c]
      exact ⟨v, false, p, Nat.le_refl _, Nat.le_refl _, rfl, by cases f <;> rfl⟩
    · rw [if_neg c, if_neg c]
      exact ⟨v, true, p, Nat.le_refl _, Nat.le_refl _, rfl, by cases f <;> rfl⟩
  intro m
  induction m with
  | zero =>
    intro i p v e hp
    rw [fX4_readNumber_4_s, fX9_readNumber_10_s, if_pos (show (3 : Int32) ≤ nI i from nI_le (a := 3) (by omega) (by omega)), if_pos (show (3 : Int32) ≤ nI i from nI_le (a := 3) (by omega) (by omega))]
    obtain ⟨v', d, p', a, b, c⟩ := stop i p v (by omega) (by omega)
    exact ⟨v', d, p', a, by omega, c⟩
  | succ m ih =>
    intro i p v e hp
    rw [fX4_readNumber_4_s, fX9_readNumber_10_s, if_neg (show ¬ (3 : Int32) ≤ nI i from nI_ge (b := 3) (by omega) (by decide)), if_neg (show ¬ (3 : Int32) ≤ nI i from nI_ge (b := 3) (by omega) (by decide)), in_eq]
    simp only [bd_1]
    have hg := kind_g h (j := p) (lo := 48) (hi := 57) (by omega) (by decide) (by decide) (by decide)
    have l126 := g_le h p
    rw [sign_g h (by omega)]
    by_cases c : 48 ≤ g p ∧ g p ≤ 57
    · have hin : p < L := Classical.byContradiction fun q => by
        have := h.2.2 p (by omega)
        omega
      rw [if_pos (show fX9_in (nI (g p)) 48 57 = true from (in_nI (lo := 48) (hi := 57) (by omega) (by decide) (by decide)).mpr c), if_pos (show fX9_in (fX9_here Tx (nI L) (nI p)) 48 57 = true from hg.mpr c), here_in h hin, nI_1, nI_1]
      have ev : 10 * v + nI (g p) - 48 = v * 10 + (nI (g p) - 48) := by
        rw [Int32.sub_eq_add_neg, Int32.sub_eq_add_neg, Int32.add_assoc, Int32.mul_comm]
      rw [ev]
      obtain ⟨v', d, p', a, b, c⟩ := ih (i + 1) (p + 1) (v * 10 + (nI (g p) - 48)) (by omega) (by
        have := h.1; omega)
      exact ⟨v', d, p', by omega, by omega, c⟩
    · rw [if_neg (show ¬ fX9_in (nI (g p)) 48 57 = true from fun z => c ((in_nI (lo := 48) (hi := 57) (by omega) (by decide) (by decide)).mp z)), if_neg (show ¬ fX9_in (fX9_here Tx (nI L) (nI p)) 48 57 = true from fun z => c (hg.mp z))]
      obtain ⟨v', d, p', a, b, c⟩ := stop i p v (by omega) (by omega)
      exact ⟨v', d, p', a, by omega, c⟩
/-- what a command does, by its word -/
def execM (S : Nat → Int32) (w : Int32) (Q : Nat → Int32) : Int32 × (Nat → Int32) :=
  if w = 0 then fX9_adds S (Q 0) else if w = 1 then fX9_limits S (Q 0) (Q 1) (Q 2) else if w = 2 then fX9_calls S (Q 0) (Q 1) (Q 2) (w - 2) else if w = 3 then fX9_calls S (Q 0) (Q 1) (Q 2) (w - 2) else if w = 4 then fX9_calls S (Q 0) (Q 1) (Q 2) ((Q 3) + 2) else if w = 5 then fX9_fixes S (Q 0) (Q 1) (Q 2) (Q 3) (Q 4) else fX9_passes S (Q 0)
theorem exec_e (S Q : Nat → Int32) (w u : Int32) (b : Bool) : (if w = 0 then bd2 (fX9_adds S (Q 0)) (fun (r_36 : Int32) (u_37 : Nat → Int32) => (r_36, u_37, Q, u, b)) else if w = 1 then bd2 (fX9_limits S (Q 0) (Q 1) (Q 2)) (fun (r_39 : Int32) (u_40 : Nat → Int32) => (r_39, u_40, Q, u, b)) else if w = 2 then bd2 (fX9_calls S (Q 0) (Q 1) (Q 2) (w - 2)) (fun (r_42 : Int32) (u_43 : Nat → Int32) => (r_42, u_43, Q, u, b)) else if w = 3 then bd2 (fX9_calls S (Q 0) (Q 1) (Q 2) (w - 2)) (fun (r_45 : Int32) (u_46 : Nat → Int32) => (r_45, u_46, Q, u, b)) else if w = 4 then bd2 (fX9_calls S (Q 0) (Q 1) (Q 2) ((Q 3) + 2)) (fun (r_48 : Int32) (u_49 : Nat → Int32) => (r_48, u_49, Q, u, b)) else if w = 5 then bd2 (fX9_fixes S (Q 0) (Q 1) (Q 2) (Q 3) (Q 4)) (fun (r_51 : Int32) (u_52 : Nat → Int32) => (r_51, u_52, Q, u, b)) else bd2 (fX9_passes S (Q 0)) (fun (r_54 : Int32) (u_55 : Nat → Int32) => (r_54, u_55, Q, u, b))) = ((execM S w Q).1, (execM S w Q).2, Q, u, b) := by
  unfold execM
  simp only [bd_2p]
  by_cases c0 : w = 0
  · rw [if_pos c0, if_pos c0]
  · rw [if_neg c0, if_neg c0]
    by_cases c1 : w = 1
    · rw [if_pos c1, if_pos c1]
    · rw [if_neg c1, if_neg c1]
      by_cases c2 : w = 2
      · rw [if_pos c2, if_pos c2]
      · rw [if_neg c2, if_neg c2]
        by_cases c3 : w = 3
        · rw [if_pos c3, if_pos c3]
        · rw [if_neg c3, if_neg c3]
          by_cases c4 : w = 4
          · rw [if_pos c4, if_pos c4]
          · rw [if_neg c4, if_neg c4]
            by_cases c5 : w = 5
            · rw [if_pos c5, if_pos c5]
            · rw [if_neg c5, if_neg c5]
def many (k : Nat) : Nat := ([1, 3, 3, 3, 4, 5, 1] : List Nat).getD k 0
theorem many_eq : ∀ k, k < 7 → vNum.getD k 0 = nI (many k) ∧ fX9_manyOf (nI k) = nI (many k) ∧ 1 ≤ many k ∧ many k ≤ 5 := by decide +kernel
theorem cmd_f {S Tx Nu : Nat → Int32} {L : Nat} {ps w x2 : Int32} {fu : Nat} {Q : Nat → Int32} {p : Nat} : fX9_command_20 S Tx Nu (nI L) ps (fu + 1) w x2 Q (nI p) false = (0, S, Q, nI (p + 1), false) := by
  rw [fX9_command_20_s, if_neg (by decide), show (59 : Int32) = nI 59 from rfl, must_f, bd_2, if_neg (by decide)]
theorem cmd_loop {S : Nat → Int32} {L : Nat} {g : Nat → Nat} {Cf Tx Nf Nu : Nat → Int32} (h : trel L g Cf Tx) {start ps : Int32} {k : Nat} (hk : k < 7) : ∀ (m i fc p : Nat) (N Q : Nat → Int32), i + m = many k → p + 4 * m < 900 → (∀ q, q < i → N q = Q q) →
    (∃ N' Q' e, p < e ∧ e ≤ L ∧ fX4_readCommand_44 Cf Nf (nI L) start k (m + 1 + fc) (nI i) N (nI p) = (true, N', some k, nI e) ∧ fX9_command_20 S Tx Nu (nI L) ps (m + 1) (nI k) (nI i) Q (nI p) true = ((execM S (nI k) Q').1, (execM S (nI k) Q').2, Q', nI e, true) ∧ ∀ q, q < many k → N' q = Q' q) ∨
    (∃ N' v u Q' u2, fX4_readCommand_44 Cf Nf (nI L) start k (m + 1 + fc) (nI i) N (nI p) = (false, N', v, u) ∧ fX9_command_20 S Tx Nu (nI L) ps (m + 1) (nI k) (nI i) Q (nI p) true = (0, S, Q', u2, false)) := by
  obtain ⟨mc, mm, m1, m5⟩ := many_eq k hk
  intro m
  induction m with
  | zero =>
    intro i fc p N Q e hp hN
    have ei : i = many k := by omega
    have ec : fX4_readCommand_44 Cf Nf (nI L) start k (0 + 1 + fc) (nI i) N (nI p) = if g p = 59 then (true, N, some k, nI (p + 1)) else (false, N, some k, nI p) := by
      rw [show 0 + 1 + fc = fc + 1 by omega, fX4_readCommand_44_s, mc, if_pos (show nI (many k) ≤ nI i from nI_le (by omega) (by omega)), show (59 : Int32) = nI 59 from rfl, sign_c h (by omega) (by decide)]
      by_cases c : g p = 59
      · rw [if_pos c, if_pos c, bd_2]
      · rw [if_neg c, if_neg c, bd_2]
    have er : fX9_command_20 S Tx Nu (nI L) ps (0 + 1) (nI k) (nI i) Q (nI p) true = if g p = 59 then ((execM S (nI k) Q).1, (execM S (nI k) Q).2, Q, nI (p + 1), true) else (0, S, Q, nI (p + 1), false) := by
      rw [fX9_command_20_s, if_pos rfl]
      simp only [bd_1]
      rw [mm, if_pos (show nI (many k) ≤ nI i from nI_le (by omega) (by omega)), show (59 : Int32) = nI 59 from rfl, must_g h (by omega) (by decide) (by decide), bd_2]
      by_cases c : g p = 59
      · rw [decide_eq_true c, if_pos rfl, if_pos c]
        exact exec_e S Q (nI k) (nI (p + 1)) true
      · rw [decide_eq_false c, if_neg (by decide), if_neg c]
    rw [ec, er]
    by_cases c : g p = 59
    · rw [if_pos c, if_pos c]
      have hin : p < L := Classical.byContradiction fun q => by
        have := h.2.2 p (by omega)
        omega
      exact Or.inl ⟨N, Q, p + 1, by omega, by omega, rfl, rfl, fun q hq => hN q (by omega)⟩
    · rw [if_neg c, if_neg c]
      exact Or.inr ⟨N, some k, nI p, Q, nI (p + 1), rfl, rfl⟩
  | succ m ih =>
    intro i fc p N Q e hp hN
    have hi : i < 5 := by omega
    have n1 : ¬ nI (many k) ≤ nI i := nI_ge (by omega) (by omega)
    have n2 : ¬ Int32.ofNat 5 ≤ nI i := nI_ge (b := 5) (by omega) (by decide)
    rw [show m + 1 + 1 + fc = (m + 1 + fc) + 1 by omega, fX4_readCommand_44_s, mc, if_neg n1, if_neg n2, show (32 : Int32) = nI 32 from rfl, sign_c h (by omega) (by decide)]
    rw [fX9_command_20_s, if_pos rfl]
    simp only [bd_1]
    rw [mm, if_neg n1]
    have eR : fX9_readNumber Tx (nI L) (nI p) true = fX9_readNumber_10 Tx (nI L) (nI p) true 4 0 0 (nI (p + 1)) (decide (g p = 32)) := by
      have e3 : ((3 : Int32).toInt - (0 : Int32).toInt).toNat + 1 = 4 := by decide
      unfold fX9_readNumber
      rw [show (32 : Int32) = nI 32 from rfl, must_g h (by omega) (by decide) (by decide), bd_2, e3]
    have eC : fX4_readNumber Cf N (nI L) (nI (p + 1)) (nI i) = fX4_readNumber_4 Cf N (nI L) (nI (p + 1)) (nI i) 4 0 0 (nI (p + 1)) := by
      have e3 : ((3 : Int32).toInt - (0 : Int32).toInt).toNat + 1 = 4 := by decide
      unfold fX4_readNumber
      rw [e3]
    obtain ⟨v', d, p', a1, a2, a3, a4⟩ := num_g (Nf := N) h (pos := nI (p + 1)) (ps := nI p) (q := i) hi (fm := true) (f := decide (g p = 32)) 3 0 (p + 1) 0 (by omega) (by omega)
    rw [nI_0] at a3 a4
    rw [eR, a4, bd_3]
    by_cases c : g p = 32
    · rw [if_pos c, bd_2, if_pos rfl, eC, a3, bd_3, decide_eq_true c, Bool.true_and, nI_clamp (by omega), nI_1]
      cases d with
      | true =>
        rw [if_pos rfl]
        have := ih (i + 1) fc p' (upd N i v') (upd Q i v') (by omega) (by omega) (fun q hq => by
          unfold upd
          by_cases z : q = i
          · rw [if_pos z, if_pos z]
          · rw [if_neg z, if_neg z]; exact hN q (by omega))
        rcases this with ⟨N', Q', e', b1, b2, b3, b4, b5⟩ | g2
        · exact Or.inl ⟨N', Q', e', by omega, b2, b3, b4, b5⟩
        · exact Or.inr g2
      | false =>
        rw [if_neg (by decide), cmd_f]
        exact Or.inr ⟨upd N i v', some k, nI p', upd Q i v', nI (p' + 1), rfl, rfl⟩
    · rw [if_neg c, bd_2, if_neg (by decide), decide_eq_false c, Bool.false_and, nI_clamp (by omega), nI_1, cmd_f]
      exact Or.inr ⟨N, some k, nI p, upd Q i v', nI (p' + 1), rfl, rfl⟩
theorem cmd_eq {S : Nat → Int32} {L : Nat} {g : Nat → Nat} {Cf Tx Nf Nu : Nat → Int32} (h : trel L g Cf Tx) {j : Nat} (hj : j ≤ 80) :
    (∃ k N' Q' e, k < 7 ∧ j < e ∧ e ≤ L ∧ fX4_readCommand Cf Nf (nI L) (nI j) = (true, N', some k, nI e) ∧ fX9_command S Tx Nu (nI L) (nI j) = ((execM S (nI k) Q').1, (execM S (nI k) Q').2, Q', nI e, true) ∧ ∀ q, q < many k → N' q = Q' q) ∨
    (∃ N' v u r Z Q' u2, fX4_readCommand Cf Nf (nI L) (nI j) = (false, N', v, u) ∧ fX9_command S Tx Nu (nI L) (nI j) = (r, Z, Q', u2, false)) := by
  have e6 : ((Int32.ofNat 5).toInt - (0 : Int32).toInt).toNat + 1 = 6 := by decide
  have m1' : ∃ q, fX9_manyOf (-1) = nI q ∧ q < 10 := ⟨3, by decide, by decide⟩
  unfold fX4_readCommand fX9_command
  simp only [bd_1]
  rcases verb_g h (j := j) (by omega) with ⟨k, hk, hm, ev⟩ | ⟨hn, ev⟩
  · obtain ⟨mc, mm, mk1, mk5⟩ := many_eq k hk
    have hw := wlen_7 k hk
    rw [ev, bdo_s, e6, show Int32.ofNat (vLen.getD k 0) = nI (wlen k) from rfl, nI_add]
    rcases word_m h (j := j) (by omega) with ⟨k', hk', hm', ew⟩ | ⟨e, he, ew, hns⟩
    · have := mat_one hk hk' hm hm'
      subst this
      rw [ew, bd_2, if_neg (show ¬ nI k < 0 from nI_pos (by omega)), mm, fuel_eq (by omega)]
      have := cmd_loop (S := S) (Nf := Nf) (Nu := Nu) h (start := nI j) (ps := nI j) hk (many k) 0 (5 - many k) (j + wlen k) Nf Nu (by omega) (by omega) (fun q hq => by omega)
      rw [show many k + 1 + (5 - many k) = 6 by omega, nI_0] at this
      rcases this with ⟨N', Q', e', b1, b2, b3, b4, b5⟩ | ⟨N', v, u, Q', u2, b1, b2⟩
      · exact Or.inl ⟨k, N', Q', e', hk, by omega, b2, b3, b4, b5⟩
      · exact Or.inr ⟨N', v, u, 0, S, Q', u2, b1, b2⟩
    · obtain ⟨mq, em, hq⟩ := m1'
      rw [ew, bd_2, if_pos (show (-1 : Int32) < 0 by decide), em, fuel_eq (by omega), cmd_f]
      have n1 : ¬ nI (many k) ≤ 0 := nI_nle (by omega) (by omega)
      refine Or.inr ⟨Nf, some k, nI (j + wlen k), 0, S, Nu, nI (e + 1), ?_, rfl⟩
      rw [show (6 : Nat) = 5 + 1 from rfl, fX4_readCommand_44_s, mc, if_neg n1, if_neg (show ¬ Int32.ofNat 5 ≤ 0 by decide), show (32 : Int32) = nI 32 from rfl, sign_c h (by omega) (by decide), if_neg (hns k hk hm), bd_2, if_neg (by decide)]
  · rw [ev, bdo_n]
    rcases word_m h (j := j) (by omega) with ⟨k', hk', hm', ew⟩ | ⟨e, he, ew, hns⟩
    · exact absurd hm' (hn k' hk')
    · obtain ⟨mq, em, hq⟩ := m1'
      rw [ew, bd_2, if_pos (show (-1 : Int32) < 0 by decide), em, fuel_eq (by omega), cmd_f]
      exact Or.inr ⟨Nf, none, nI j, 0, S, Nu, nI (e + 1), rfl, rfl⟩
