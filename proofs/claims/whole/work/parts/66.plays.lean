/-! the text grows and is cleared -/
theorem narc : ∀ m : Nat, m < 127 → vp_nar .char (((nI m).toUInt32 % 65536).toInt32) = nI m := by decide +kernel
theorem narc2 : ∀ m : Nat, m < 127 → narrow .char (.int (nI m)) = .int (nI m) := by decide +kernel
theorem sim_type {L : Nat} {g : Nat → Nat} {Cf Tx : Nat → Int32} (h : trel L g Cf Tx) (hC : ∀ k, narrow .char (.int (Cf k)) = .int (Cf k)) (ch : Int32) : (fX8_type Cf (nI L) ch).1 = (fX9_type Tx (nI L) ch).1 ∧ (fX8_type Cf (nI L) ch).2.2 = (fX9_type Tx (nI L) ch).2.2 ∧ (∃ L' g', (fX8_type Cf (nI L) ch).2.2 = nI L' ∧ trel L' g' (fX8_type Cf (nI L) ch).2.1 (fX9_type Tx (nI L) ch).2.1) ∧ ∀ k, narrow .char (.int ((fX8_type Cf (nI L) ch).2.1 k)) = .int ((fX8_type Cf (nI L) ch).2.1 k) := by
  obtain ⟨hL, hg, hz⟩ := id h
  unfold fX8_type fX4_append fX9_type
  rw [in_eq]
  simp only [bd_1]
  by_cases c : fX9_in ch 32 126 = true
  · rw [if_pos c, if_pos c, if_neg (show ¬ nI L < 0 from nI_pos (by omega))]
    have r := in_rng c
    have e32 : (32 : Int32).toInt = 32 := by decide
    have e126 : (126 : Int32).toInt = 126 := by decide
    obtain ⟨m, hm, rfl⟩ := nI_of_rng (v := ch) (n := 127) (by decide) (by omega) (by omega)
    rw [nI_toInt (by omega)] at r
    by_cases c2 : L = 80
    · subst c2
      rw [if_neg (show ¬ nI 80 < Int32.ofNat 80 by decide), if_pos (show nI 80 = 80 from rfl), bd_3]
      exact ⟨rfl, rfl, ⟨80, g, rfl, h⟩, hC⟩
    · rw [if_pos (show nI L < Int32.ofNat 80 from nI_lt (b := 80) (by omega) (by decide)), if_neg (show ¬ nI L = 80 from fun q => c2 ((nI_eq (b := 80) (by omega) (by decide)).mp q)), narc m hm, nI_clamp (by omega), nI_1, bd_3]
      refine ⟨rfl, rfl, ⟨L + 1, fun j => if j = L then m else g j, rfl, by omega, fun j hj => ?_, fun j hj => ?_⟩, fun k => ?_⟩
      · show (32 ≤ (if j = L then m else g j) ∧ (if j = L then m else g j) ≤ 126) ∧ upd Cf L (nI m) j = nI (if j = L then m else g j) ∧ upd Tx L (nI m) j = nI (if j = L then m else g j)
        by_cases e : j = L
        · subst e
          rw [if_pos rfl, u_is, u_is]
          exact ⟨⟨by omega, by omega⟩, rfl, rfl⟩
        · rw [if_neg e, u_no e, u_no e]
          exact hg j (by omega)
      · show (if j = L then m else g j) = 0
        rw [if_neg (by omega)]
        exact hz j (by omega)
      · show narrow .char (.int (upd Cf L (nI m) k)) = .int (upd Cf L (nI m) k)
        by_cases e : k = L
        · subst e; rw [u_is]; exact narc2 m hm
        · rw [u_no e]; exact hC k
  · rw [if_neg c, if_neg c, bd_3]
    exact ⟨rfl, rfl, ⟨L, g, rfl, h⟩, hC⟩
theorem sim_clear {L : Nat} {g : Nat → Nat} {Cf Tx : Nat → Int32} (h : trel L g Cf Tx) : fX8_clearText (nI L) = fX9_clearText (nI L) ∧ (fX8_clearText (nI L)).2 = nI 0 ∧ trel 0 (fun _ => 0) Cf Tx := by
  unfold fX8_clearText fX4_clear fX9_clearText
  rw [bd_2]
  exact ⟨rfl, rfl, by omega, fun j hj => by omega, fun _ _ => rfl⟩
/-! faults and plays -/
theorem run_eq {B L : Nat} {g : Nat → Nat} {Cf Tx : Nat → Int32} (h : trel L g Cf Tx) (Nf : Nat → Int32) (vb : Option Nat) (pos : Int32) {RA RI RC S : Nat → Int32} {na ni dy vl db : Int32} (hr : relT B RA RI RC na ni dy vl db S) (SA SI SC Nu : Nat → Int32) (na2 ni2 dy2 vl2 db2 : Int32) (fm : Bool) (rs : Int32) (hB : B + 160 < 2 ^ 31 - 3) :
    (∃ c' p N v q QA' QI' QC' qa' qi' qd' ql' qb' Z' Q' u f' rr', c' ≤ 80 ∧ fX3_run Cf Nf (nI L) vb pos RA RI RC na ni dy vl db SA SI SC na2 ni2 dy2 vl2 db2 = (nI c', p, 0, N, v, q, QA', QI', QC', qa', qi', qd', ql', qb') ∧ fX9_does S Tx Nu (nI L) fm rs = (-1 - nI c', Z', Q', u, f', rr') ∧ relT (B + 160) QA' QI' QC' qa' qi' qd' ql' qb' Z') ∨
    (∃ (c' : Int32) (p : Nat), ∃ N v q QA' QI' QC' qa' qi' qd' ql' qb' Z' Q' u f' r, p ≤ 80 ∧ 1 ≤ r ∧ r ≤ 3 ∧ fX3_run Cf Nf (nI L) vb pos RA RI RC na ni dy vl db SA SI SC na2 ni2 dy2 vl2 db2 = (c', nI p, nI r, N, v, q, QA', QI', QC', qa', qi', qd', ql', qb') ∧ fX9_does S Tx Nu (nI L) fm rs = (nI p, Z', Q', u, f', nI r)) := by
  have hL := h.1
  have e81 : ((80 : Int32).toInt - (0 : Int32).toInt).toNat + 1 = 81 := by decide
  have hT := copy_rel (RA := SA) (RI := SI) (RC := SC) hr
  unfold fX3_run fX9_does
  simp only [bd_1]
  rw [e81, fuel_eq (by omega)]
  generalize fX5_copyFrom SA SI SC RA RI RC na ni dy vl db = T at hT ⊢
  exact run_loop h 80 0 0 81 (L + 1) B Nf vb pos T.1 T.2.1 T.2.2.1 T.2.2.2.1 T.2.2.2.2.1 T.2.2.2.2.2.1 T.2.2.2.2.2.2.1 T.2.2.2.2.2.2.2 S Nu fm rs (by omega) (by omega) (by omega) (by omega) (by omega) (by omega) hT
theorem neg1 : ∀ c : Nat, c < 81 → -1 - (-1 - nI c) = nI c ∧ (-1 - nI c) < 0 ∧ ¬ (0 : Int32) ≤ -1 - nI c := by decide +kernel
theorem back_at {Z S Bg : Nat → Int32} {j : Nat} (hj : j < 314) : fX9_returns Z (fX9_begins S Bg) j = S j := by rw [returns_at hj, begins_at hj]
abbrev XT : Type := Int32 × Int32 × Int32 × (Nat → Int32) × Option Nat × Int32 × (Nat → Int32) × (Nat → Int32) × (Nat → Int32) × Int32 × Int32 × Int32 × Int32 × Int32
theorem sim_fault {B L : Nat} {g : Nat → Nat} {Cf Tx : Nat → Int32} (h : trel L g Cf Tx) (cm ps rs : Int32) (Nf : Nat → Int32) (vb : Option Nat) (pos : Int32) {RA RI RC S : Nat → Int32} {na ni dy vl db : Int32} (hr : relT B RA RI RC na ni dy vl db S) (SA SI SC Bg Nu : Nat → Int32) (na2 ni2 dy2 vl2 db2 ps9 : Int32) (fm : Bool) (rs9 what : Int32) (hB : B + 160 < 2 ^ 31 - 3) :
    (fX8_fault cm ps rs Cf Nf (nI L) vb pos RA RI RC na ni dy vl db SA SI SC na2 ni2 dy2 vl2 db2 what).1 = (fX9_fault S Bg Tx Nu (nI L) ps9 fm rs9 what).1 ∧ relT B RA RI RC na ni dy vl db (fX9_fault S Bg Tx Nu (nI L) ps9 fm rs9 what).2.1 := by
  unfold fX8_fault fX9_fault fX3_hasFault fX3_position fX3_reason
  rw [in_eq]
  simp only [bd_1]
  by_cases c : fX9_in what 0 1 = true
  · rw [if_pos c, if_pos c]
    rcases run_eq h Nf vb pos hr SA SI SC Nu na2 ni2 dy2 vl2 db2 fm rs9 hB with ⟨c', p, N, v, q, QA', QI', QC', qa', qi', qd', ql', qb', Z', Q', u, f', rr', g0, g1, g2, g3⟩ | ⟨c', p, N, v, q, QA', QI', QC', qa', qi', qd', ql', qb', Z', Q', u, f', r, g0, g1, g2, g3, g4⟩
    · rw [g1, g2, bd_6p]
      dsimp only
      rw [if_pos (show (0 : Int32) = 0 from rfl), if_neg (show ¬ (false = true) by decide), if_neg (neg1 c' (by omega)).2.2]
      refine ⟨rfl, ?_⟩
      dsimp only
      exact relT_cong hr (fun _ _ => rfl) (fun _ _ => rfl) (fun _ _ => rfl) (fun j hj => back_at hj)
    · rw [g3, g4, bd_6p]
      dsimp only
      rw [if_neg (show ¬ nI r = 0 from nI_ne0 (by omega) (by omega)), if_pos (show true = true from rfl), if_pos (show (0 : Int32) ≤ nI p from nI_pos' (by omega))]
      by_cases w : what = 0
      · rw [if_pos w, if_pos w]
        refine ⟨rfl, ?_⟩
        dsimp only
        exact relT_cong hr (fun _ _ => rfl) (fun _ _ => rfl) (fun _ _ => rfl) (fun j hj => back_at hj)
      · rw [if_neg w, if_neg w]
        refine ⟨rfl, ?_⟩
        dsimp only
        exact relT_cong hr (fun _ _ => rfl) (fun _ _ => rfl) (fun _ _ => rfl) (fun j hj => back_at hj)
  · rw [if_neg c, if_neg c]
    exact ⟨rfl, hr⟩
theorem sim_play {B L f z : Nat} {g : Nat → Nat} {Cf Tx Pa : Nat → Int32} {HS : Nat → SV} (h : trel L g Cf Tx) (cm ps rs : Int32) (Nf : Nat → Int32) (vb : Option Nat) (pos : Int32) {RA RI RC S : Nat → Int32} {na ni dy vl db : Int32} (hr : relT B RA RI RC na ni dy vl db S) (hh : hrel B f z HS Pa) (SA SI SC Bg Nu : Nat → Int32) (na2 ni2 dy2 vl2 db2 : Int32) (fm : Bool) (rs9 : Int32) (hB : B + 160 < 2 ^ 31 - 3) :
    ∃ r f' z' HS', ∃ (T : SV) (X : XT), ∃ S' Bg' Pa' Nu' p9 fm' rs', fX8_play cm ps rs Cf Nf (nI L) vb pos RA RI RC na ni dy vl db SA SI SC na2 ni2 dy2 vl2 db2 (nI f) (nI z) HS = (r, X.1, X.2.1, X.2.2.1, X.2.2.2.1, X.2.2.2.2.1, X.2.2.2.2.2.1, X.2.2.2.2.2.2.1, X.2.2.2.2.2.2.2.1, X.2.2.2.2.2.2.2.2.1, X.2.2.2.2.2.2.2.2.2.1, X.2.2.2.2.2.2.2.2.2.2.1, X.2.2.2.2.2.2.2.2.2.2.2.1, X.2.2.2.2.2.2.2.2.2.2.2.2.1, X.2.2.2.2.2.2.2.2.2.2.2.2.2, T.1, T.2.1, T.2.2.1, T.2.2.2.1, T.2.2.2.2.1, T.2.2.2.2.2.1, T.2.2.2.2.2.2.1, T.2.2.2.2.2.2.2, HS', nI f', nI z') ∧
      fX9_play S Bg Pa Tx Nu (nI z) (nI L) fm rs9 = (r, S', Bg', Pa', Nu', nI z', p9, fm', rs') ∧ relS (B + 160) T S' ∧ hrel (B + 160) f' z' HS' Pa' := by
  unfold fX8_play fX9_play fX3_hasFault fX3_commands fX3_copyTo
  simp only [bd_1]
  rcases run_eq h Nf vb pos hr SA SI SC Nu na2 ni2 dy2 vl2 db2 fm rs9 hB with ⟨c', p, N, v, q, QA', QI', QC', qa', qi', qd', ql', qb', Z', Q', u, f'', rr', g0, g1, g2, g3⟩ | ⟨c', p, N, v, q, QA', QI', QC', qa', qi', qd', ql', qb', Z', Q', u, f'', r, g0, g1, g2, g3, g4⟩
  · obtain ⟨n1, n2, n3⟩ := neg1 c' (by omega)
    have hT := copy_rel (RA := RA) (RI := RI) (RC := RC) g3
    obtain ⟨f', z', Pa', b1, b2, b3⟩ := sim_hist (Bg := Bg) hh hr (nI c')
    rw [g1, g2, bd_6p]
    dsimp only
    rw [if_pos (show (0 : Int32) = 0 from rfl), if_neg (show ¬ (false = true) by decide), if_pos n2, n1, b1, b2, bd_3, bd_3]
    generalize fX5_copyFrom RA RI RC QA' QI' QC' qa' qi' qd' ql' qb' = T at hT ⊢
    generalize fX1_draft (nI f) (nI z) HS RA RI RC na ni dy vl db = HS' at b3 ⊢
    exact ⟨nI c', f', z', HS', T, (nI c', p, 0, N, v, q, QA', QI', QC', qa', qi', qd', ql', qb'), Z', _, Pa', Q', u, f'', rr', rfl, rfl, hT, hrel_le b3 (by omega)⟩
  · rw [g3, g4, bd_6p]
    dsimp only
    rw [if_neg (show ¬ nI r = 0 from nI_ne0 (by omega) (by omega)), if_pos (show true = true from rfl), if_neg (show ¬ nI p < 0 from nI_pos (by omega))]
    refine ⟨-2, f, z, HS, (RA, RI, RC, na, ni, dy, vl, db), (c', nI p, nI r, N, v, q, QA', QI', QC', qa', qi', qd', ql', qb'), _, _, Pa, Q', u, f'', nI r, rfl, rfl, ?_, hrel_le hh (by omega)⟩
    exact relT_le (relT_cong hr (fun _ _ => rfl) (fun _ _ => rfl) (fun _ _ => rfl) (fun j hj => back_at hj)) (by omega)
