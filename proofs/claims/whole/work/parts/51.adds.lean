/-! what goes on with a value; by rewriting, not by unfolding (the kernel loses its way in Int32 otherwise) -/
theorem bd_1 {α γ : Type} (x : α) (f : α → γ) : bd1 x f = f x := by rw [bd1]
theorem bd_2 {α β γ : Type} (x : α) (y : β) (f : α → β → γ) : bd2 (x, y) f = f x y := by rw [bd2]
theorem bd_3 {α β δ γ : Type} (x : α) (y : β) (z : δ) (f : α → β → δ → γ) : bd3 (x, y, z) f = f x y z := by rw [bd3]
theorem bd_2p {α β γ : Type} (x : α × β) (f : α → β → γ) : bd2 x f = f x.1 x.2 := by rw [bd2]
theorem bd_3p {α β δ γ : Type} (x : α × β × δ) (f : α → β → δ → γ) : bd3 x f = f x.1 x.2.1 x.2.2 := by rw [bd3]
theorem bd_4p {α β δ ε γ : Type} (x : α × β × δ × ε) (f : α → β → δ → ε → γ) : bd4 x f = f x.1 x.2.1 x.2.2.1 x.2.2.2 := by rw [bd4]
theorem u_n {A : Nat → Int32} {v : Int32} {m n : Nat} : upd A m v n = if n = m then v else A n := by rw [upd]
theorem rng_0 {B : Nat} : rng 0 0 B := by
  have e : (0 : Int32).toInt = 0 := by decide
  exact ⟨by omega, by omega⟩
/-! frames of the relation -/
theorem rowR_fr {RA RA' S S' : Nat → Int32} {a : Nat} (h : rowR RA S a) (hA : ∀ c, c < 10 → RA' (iA a c) = RA (iA a c)) (hS : ∀ c, c < 10 → S' (iP a c) = S (iP a c)) : rowR RA' S' a := by
  unfold rowR
  rw [hA 0 (by decide), hA 1 (by decide), hA 2 (by decide), hA 3 (by decide), hA 4 (by decide), hA 5 (by decide), hA 6 (by decide), hA 7 (by decide), hA 8 (by decide), hA 9 (by decide), hS 0 (by decide), hS 1 (by decide), hS 2 (by decide), hS 3 (by decide), hS 4 (by decide), hS 5 (by decide), hS 6 (by decide), hS 7 (by decide), hS 8 (by decide), hS 9 (by decide)]
  exact h
theorem rowK_fr {S S' : Nat → Int32} {B a : Nat} (h : rowK S B a) (hS : ∀ c, c < 10 → S' (iP a c) = S (iP a c)) : rowK S' B a := by
  unfold rowK
  rw [hS 0 (by decide), hS 1 (by decide), hS 2 (by decide), hS 3 (by decide), hS 6 (by decide)]
  exact h
theorem rowE_fr {RA RA' S S' : Nat → Int32} {a : Nat} (h : rowE RA S a) (hA : ∀ c, c < 10 → RA' (iA a c) = RA (iA a c)) (hS : ∀ c, c < 10 → S' (iP a c) = S (iP a c)) : rowE RA' S' a :=
  fun c hc => ⟨by rw [hA c hc]; exact (h c hc).1, by rw [hS c hc]; exact (h c hc).2⟩
theorem stK_fr {S S' : Nat → Int32} {i : Nat} (h : stK S i) (hS : ∀ c, c < 6 → S' (iW i c) = S (iW i c)) : stK S' i := by
  unfold stK
  rw [hS 0 (by decide), hS 1 (by decide), hS 2 (by decide)]
  exact h
theorem ceK_fr {S S' : Nat → Int32} {x g : Nat} (h : ceK S x g) (hS : ∀ c, c < 3 → S' (iC x g c) = S (iC x g c)) : ceK S' x g := by
  unfold ceK
  rw [hS 0 (by decide), hS 1 (by decide), hS 2 (by decide)]
  exact h
theorem ceR_fr {RC RC' S S' : Nat → Int32} {x g : Nat} (h : ceR RC S x g) (hC : ∀ c, c < 3 → RC' (iD x g c) = RC (iD x g c)) (hS : ∀ c, c < 3 → S' (iC x g c) = S (iC x g c)) : ceR RC' S' x g :=
  fun c hc => by rw [hC c hc, hS c hc]; exact h c hc
theorem stR_fr {RI RI' S S' : Nat → Int32} {i : Nat} (h : stR RI S i) (hC : ∀ c, c < 6 → RI' (iI i c) = RI (iI i c)) (hS : ∀ c, c < 6 → S' (iW i c) = S (iW i c)) : stR RI' S' i :=
  fun c hc => by rw [hC c hc, hS c hc]; exact h c hc
theorem sums_fr {S S' : Nat → Int32} {n : Nat} (h : sums S n) (h3 : S' 3 = S 3) (h4 : S' 4 = S 4) (h5 : S' 5 = S 5) (hS : ∀ a, a < n → ∀ c, c < 10 → S' (iP a c) = S (iP a c)) : sums S' n := by
  obtain ⟨e1, e2, e3⟩ := h
  refine ⟨?_, ?_, ?_⟩
  · rw [h3, e1]; exact sumF_eq n 0 (fun a _ ha => (hS a (by omega) 2 (by decide)).symm)
  · rw [h4, e2]; exact sumF_eq n 0 (fun a _ ha => (hS a (by omega) 3 (by decide)).symm)
  · rw [h5, e3]; exact sumF_eq n 0 (fun a _ ha => by
      show (if S (iP a 1) = 1 then (1 : Int32) else 0) = (if S' (iP a 1) = 1 then 1 else 0)
      rw [hS a (by omega) 1 (by decide)])
/-! an address more -/
theorem add_loop {RA Q : Nat → Int32} {n : Nat} {area : Int32} (hn : n < 24) : fX5_addAddress_50 RA (nI n) area 7 4 Q = (nI n, upd (upd (upd (upd (upd (upd Q (iA n 4) (-4)) (iA n 5) (-4)) (iA n 6) (-4)) (iA n 7) (-4)) (iA n 8) (-4)) (iA n 9) (-4), nI (n + 1)) := by
  rw [fX5_addAddress_50_s, if_neg (by decide), bd1_e (pA_4 hn), show (4 : Int32) + 1 = 5 from by decide,
    fX5_addAddress_50_s, if_neg (by decide), bd1_e (pA_5 hn), show (5 : Int32) + 1 = 6 from by decide,
    fX5_addAddress_50_s, if_neg (by decide), bd1_e (pA_6 hn), show (6 : Int32) + 1 = 7 from by decide,
    fX5_addAddress_50_s, if_neg (by decide), bd1_e (pA_7 hn), show (7 : Int32) + 1 = 8 from by decide,
    fX5_addAddress_50_s, if_neg (by decide), bd1_e (pA_8 hn), show (8 : Int32) + 1 = 9 from by decide,
    fX5_addAddress_50_s, if_neg (by decide), bd1_e (pA_9 hn), show (9 : Int32) + 1 = 10 from by decide,
    fX5_addAddress_50_s, if_pos (by decide), nI_1]
theorem sim_adds {B n k : Nat} {RA RI RC S : Nat → Int32} {dy vl db : Int32} (h : rel B n k RA RI RC dy vl db S) (area : Int32) : (fX5_addAddress RA (nI n) area).1 = (fX9_adds S area).1 ∧ relT B (fX5_addAddress RA (nI n) area).2.1 RI RC (fX5_addAddress RA (nI n) area).2.2 (nI k) dy vl db (fX9_adds S area).2 := by
  obtain ⟨⟨⟨hn, hk⟩, ⟨s0, s1, s2, s6, s7⟩, hdy, hvl, hdb⟩, hr, he, hi, hik, hz2, hc, hs⟩ := id h
  have same : relT B RA RI RC (nI n) (nI k) dy vl db S := ⟨n, k, rfl, rfl, h⟩
  unfold fX5_addAddress fX9_adds
  rw [in_eq]
  simp only [bd_1]
  by_cases c1 : fX9_in area 0 3 = true
  · rw [if_pos c1, if_pos c1]
    by_cases c2 : n = 24
    · subst c2
      rw [if_neg (show ¬ nI 24 < 24 by decide), if_pos (show S 0 = 24 by rw [s0]; rfl)]
      exact ⟨rfl, same⟩
    · have hn' : n < 24 := by omega
      rw [if_pos (show nI n < 24 from nI_lt hn' (by decide)), if_neg (show ¬ S 0 = 24 from fun e => by rw [s0] at e; exact c2 ((nI_eq (by omega) (by decide)).mp e))]
      have e7 : ((10 : Int32).toInt - (4 : Int32).toInt).toNat + 1 = 7 := by decide
      rw [e7, pA_0 hn', add_loop hn', s0, tP_0 hn', u_Pn (by decide), s0, nI_1, u_is, nI_pred]
      dsimp only
      refine ⟨rfl, n + 1, k, rfl, rfl, ⟨⟨by omega, hk⟩, ⟨?_, ?_, ?_, ?_, ?_⟩, hdy, hvl, hdb⟩, fun a ha => ?_, fun a h1 h2 => ?_, fun i h1 => ?_, fun i h1 => ?_, fun i h1 h2 => ?_, fun x hx g hg => ?_, ?_⟩
      · exact u_is
      · rw [u_nn, if_neg (by decide), u_Pn (by decide)]; exact s1
      · rw [u_nn, if_neg (by decide), u_Pn (by decide)]; exact s2
      · rw [u_nn, if_neg (by decide), u_Pn (by decide)]; exact s6
      · rw [u_nn, if_neg (by decide), u_Pn (by decide)]; exact s7
      · by_cases ea : a = n
        · subst ea
          have z := he a (Nat.le_refl _) hn'
          have hz : ∀ c, c < 10 → RA (iA a c) = 0 := fun c hc => (z c hc).1
          have hy : ∀ c, c < 10 → S (iP a c) = 0 := fun c hc => (z c hc).2
          have ha3 := in_rng c1
          constructor
          · unfold rowR
            simp [u_AA, u_PP, u_nP, hz, hy]
          · unfold rowK
            simp [u_PP, u_nP, hy]
            exact ⟨ha3, ⟨by decide, by decide⟩, rng_0⟩
        · have g := hr a (by omega)
          have f1 : ∀ c, c < 10 → upd (upd (upd (upd (upd (upd (upd RA (iA n 0) area) (iA n 4) (-4)) (iA n 5) (-4)) (iA n 6) (-4)) (iA n 7) (-4)) (iA n 8) (-4)) (iA n 9) (-4) (iA a c) = RA (iA a c) := fun c hc => by simp [u_AA, hc, ea]
          have f2 : ∀ c, c < 10 → upd (upd S (iP n 0) area) 0 (nI (n + 1)) (iP a c) = S (iP a c) := fun c hc => by simp [u_PP, u_nP, hc, ea]
          exact ⟨rowR_fr g.1 f1 f2, rowK_fr g.2 f2⟩
      · refine rowE_fr (he a (by omega) h2) (fun c hc => ?_) (fun c hc => ?_)
        · have ea : ¬ a = n := by omega
          simp [u_AA, hc, ea]
        · have ea : ¬ a = n := by omega
          simp [u_PP, u_nP, hc, ea]
      · exact stR_fr (hi i h1) (fun _ _ => rfl) (fun c hc => by rw [u_nW (by decide), u_PW h1 hc])
      · exact stK_fr (hik i h1) (fun c hc => by rw [u_nW (by decide), u_PW (by omega) hc])
      · rw [u_nW (by decide), u_PW h2 (by decide)]; exact hz2 i h1 h2
      · have f : ∀ c, c < 3 → upd (upd S (iP n 0) area) 0 (nI (n + 1)) (iC x g c) = S (iC x g c) := fun c hc => by rw [u_nC (by decide), u_PC hx hg hc]
        exact ⟨ceR_fr (hc x hx g hg).1 (fun _ _ => rfl) f, ceK_fr (hc x hx g hg).2 f⟩
      · have z : ∀ c, 0 < c → c < 10 → upd (upd S (iP n 0) area) 0 (nI (n + 1)) (iP n c) = 0 := fun c h1 h2 => by
          rw [u_nP (by decide), u_PP h2 (by decide), if_neg (fun q => by omega)]
          exact (he n (Nat.le_refl _) hn' c h2).2
        obtain ⟨g1, g2, g3⟩ := sums_fr (S' := upd (upd S (iP n 0) area) 0 (nI (n + 1))) hs (by rw [u_nn, if_neg (by decide), u_Pn (by decide)]) (by rw [u_nn, if_neg (by decide), u_Pn (by decide)]) (by rw [u_nn, if_neg (by decide), u_Pn (by decide)]) (fun a ha c hc => by
          have ea : ¬ a = n := by omega
          simp [u_PP, u_nP, hc, ea])
        refine ⟨?_, ?_, ?_⟩
        · rw [sumF_end, ← g1]
          show _ = _ + upd (upd S (iP n 0) area) 0 (nI (n + 1)) (iP (0 + n) 2)
          rw [Nat.zero_add, z 2 (by decide) (by decide), Int32.add_zero]
        · rw [sumF_end, ← g2]
          show _ = _ + upd (upd S (iP n 0) area) 0 (nI (n + 1)) (iP (0 + n) 3)
          rw [Nat.zero_add, z 3 (by decide) (by decide), Int32.add_zero]
        · rw [sumF_end, ← g3]
          show _ = _ + (if upd (upd S (iP n 0) area) 0 (nI (n + 1)) (iP (0 + n) 1) = 1 then 1 else 0)
          rw [Nat.zero_add, z 1 (by decide) (by decide), if_neg (by decide), Int32.add_zero]
  · rw [if_neg c1, if_neg c1]
    exact ⟨rfl, same⟩
