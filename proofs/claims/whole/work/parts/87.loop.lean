/-! the law: its loop -/
theorem lp_head {i L : Nat} (hL : L ≤ 3072) (hi : i ≤ 4000) (h : ¬ (Int32.ofNat L - 6 < nI i)) : i + 6 ≤ L := by
  have h1 := (not_congr Int32.lt_iff_toInt_lt).mp h
  have e : (nI i).toInt = (i : Int) := Int32.toInt_ofNat_of_lt (by omega)
  have e1 : (Int32.ofNat L).toInt = (L : Int) := Int32.toInt_ofNat_of_lt (by omega)
  have e6 : (6 : Int32).toInt = 6 := by decide
  have e2 : (Int32.ofNat L - 6).toInt = (L : Int) - 6 := by
    rw [Int32.toInt_sub, e1, e6]
    apply Int.bmod_eq_of_le <;> omega
  rw [e, e2] at h1
  omega
section LAWL
variable {p : Program} {l : Launch} {e : Env} {s : State} {m : MethodId} {below : List Frame} {meth : Method} {c : Code} {D : va_G} {A : Nat → Prop} {b L : Nat} {xs : Nat → Int32} {cI cC cS : ClassId} {adK adV : Nat → Nat} {tV tS : Nat}
theorem law_exit {H : Heap} {locs : List Loc} {ls : Array Slot} (hx : p.tables.exec = Jvm.exec) (hb : c.code = cL_law) (hr : meth.sig.returnType = ret) (hlk : meth.locks = false) (hls : ∀ q ∈ locs, s.heap.size ≤ q.base) : W p l e room_1 s m #[Value.ref b] below meth c H locs 63 4328 (lw_Z below #[Value.ref b] s) (F0 m 815 ls []) := by
  refine lv_iconst (v := 1) hx hb dL_law_815 (by decide) ?_
  refine va_forget hls ?_
  refine W.widen (k := 600000) (n := 7302250) (by decide) (by decide) ?_
  exact W.base (lw_ret (Drawn.sameBut.refl s.drawn lw_cs) hx hb hr hlk dL_law_816)
variable {fq h o g cs rh t1 t2 t3 a1 a2 a3 ga : Nat} {Hs : Nat → Option Nat} {h0 x0 y0 z0 i0 j0 k0 h1 x1 y1 z1 i1 j1 k1 h2 x2 y2 z2 i2 j2 k2 h3 x3 y3 z3 i3 j3 k3 h4 x4 y4 z4 i4 j4 k4 ck cn : Nat} {ad : Nat → Nat} {tr u1 u2 u3 b1 b2 b3 mo q1 q2 q3 q4 q5 : Nat}
set_option maxHeartbeats 4000000 in
set_option maxRecDepth 100000 in
theorem law_loop (hx : p.tables.exec = Jvm.exec) (hb : c.code = cL_law) (hml : c.maxLocals = 4) (hown : s.vm.findClass RL = some m.cls) (hts : ∀ w ∈ wsL_law, w.before #[Value.ref b] s = true) (hXs : va_X b L xs s s.heap) (hbl : b < s.heap.size) (hbA : ¬ A b) (hK : va_K D vwCl (TY cI cC cS) s) (hA : ∀ q, s.heap.size ≤ q → A q) (hE : wE ad adK adV tV tS A s s.heap) (hN : wN s) (hH0 : Hs 0 = some h0) (hH1 : Hs 1 = some h1) (hH2 : Hs 2 = some h2) (hH3 : Hs 3 = some h3) (hH4 : Hs 4 = some h4) (hr : meth.sig.returnType = ret) (hlk : meth.locks = false) (hAs : ∀ q, A q → s.heap.size ≤ q) (hL3 : L ≤ 3072) : ∀ (n i B : Nat) (RA RI RC : Nat → Int32) (na ni dy vl db first size : Int32) (HS : Nat → SV) (Cf Nf : Nat → Int32) (len : Int32) (vb : Option Nat) (pos cm ps rs : Int32) (SA SI SC : Nat → Int32) (na2 ni2 dy2 vl2 db2 : Int32) (S Bg Pa Tx Nu : Nat → Int32) (st ln ps9 : Int32) (fmb : Bool) (rs9 : Int32) (H : Heap) (locs : List Loc) (ls : Array Slot), lv_has ls 4 [(3, .int (nI i)), (2, .ref mo), (1, .ref fq), (0, .ref b)] → lawR B RA RI RC na ni dy vl db first size HS Cf len S Pa Tx st ln → B + 160 * n < 999999 → L < i + 6 * n → i ≤ 4000 → va_P D vwCl (lwL cI cC cS fq h o g cs rh t1 t2 t3 a1 a2 a3 ga Hs h0 x0 y0 z0 i0 j0 k0 h1 x1 y1 z1 i1 j1 k1 h2 x2 y2 z2 i2 j2 k2 h3 x3 y3 z3 i3 j3 k3 h4 x4 y4 z4 i4 j4 k4 ck cn ad tr u1 u2 u3 b1 b2 b3 mo q1 q2 q3 q4 q5 RA RI RC na ni dy vl db first size HS Cf Nf len vb pos cm ps rs SA SI SC na2 ni2 dy2 vl2 db2 S Bg Pa Tx Nu st ln ps9 fmb rs9).flatten H → va_D A (lwL cI cC cS fq h o g cs rh t1 t2 t3 a1 a2 a3 ga Hs h0 x0 y0 z0 i0 j0 k0 h1 x1 y1 z1 i1 j1 k1 h2 x2 y2 z2 i2 j2 k2 h3 x3 y3 z3 i3 j3 k3 h4 x4 y4 z4 i4 j4 k4 ck cn ad tr u1 u2 u3 b1 b2 b3 mo q1 q2 q3 q4 q5 RA RI RC na ni dy vl db first size HS Cf Nf len vb pos cm ps rs SA SI SC na2 ni2 dy2 vl2 db2 S Bg Pa Tx Nu st ln ps9 fmb rs9).flatten → va_S A s.heap H locs → W p l e room_1 s m #[Value.ref b] below meth c H locs 63 4328 (lw_Z below #[Value.ref b] s) (F0 m 18 ls []) := by
  intro n
  induction n with
  | zero =>
    intro i B RA RI RC na ni dy vl db first size HS Cf Nf len vb pos cm ps rs SA SI SC na2 ni2 dy2 vl2 db2 S Bg Pa Tx Nu st ln ps9 fmb rs9 H locs ls hl hR hB hLi hi4 hP hD hS
    refine lv_iload_n hx hb dL_law_18 rfl (lv_at hl 0 rfl) ?_
    refine lv_aload_n hx hb dL_law_19 rfl (lv_at hl 3 rfl) ?_
    refine va_slen hx hb hXs hbl hbA hS dL_law_20 ?_
    refine lv_bipush (v := 6) hx hb dL_law_21 (by decide) ?_
    refine lv_isub hx hb dL_law_23 ?_
    refine lv_icmp_gt (tgt := 815) hx hb dL_law_24 (by decide) (fun _ => law_exit hx hb hr hlk (fun q hq => hAs _ (hS.2.2 q hq))) (fun hc => ?_)
    have hi := lp_head hL3 hi4 hc
    exact absurd hi (by omega)
  | succ n ih =>
    intro i B RA RI RC na ni dy vl db first size HS Cf Nf len vb pos cm ps rs SA SI SC na2 ni2 dy2 vl2 db2 S Bg Pa Tx Nu st ln ps9 fmb rs9 H locs ls hl hR hB hLi hi4 hP hD hS
    refine lv_iload_n hx hb dL_law_18 rfl (lv_at hl 0 rfl) ?_
    refine lv_aload_n hx hb dL_law_19 rfl (lv_at hl 3 rfl) ?_
    refine va_slen hx hb hXs hbl hbA hS dL_law_20 ?_
    refine lv_bipush (v := 6) hx hb dL_law_21 (by decide) ?_
    refine lv_isub hx hb dL_law_23 ?_
    refine lv_icmp_gt (tgt := 815) hx hb dL_law_24 (by decide) (fun _ => law_exit hx hb hr hlk (fun q hq => hAs _ (hS.2.2 q hq))) (fun hc => ?_)
    have hi := lp_head hL3 hi4 hc
    have hv1 : vp_in (nI i + 1) L := by
      show vp_in (nI i + nI 1) L
      rw [nI_add]
      exact vp_nI (by omega) (by omega)
    have hv2 : vp_in (nI i + 2) L := by
      show vp_in (nI i + nI 2) L
      rw [nI_add]
      exact vp_nI (by omega) (by omega)
    have hv3 : vp_in (nI i + 3) L := by
      show vp_in (nI i + nI 3) L
      rw [nI_add]
      exact vp_nI (by omega) (by omega)
    have hv4 : vp_in (nI i + 4) L := by
      show vp_in (nI i + nI 4) L
      rw [nI_add]
      exact vp_nI (by omega) (by omega)
    have hv5 : vp_in (nI i + 5) L := by
      show vp_in (nI i + nI 5) L
      rw [nI_add]
      exact vp_nI (by omega) (by omega)
    have K : ∀ (B1 : Nat) (RA' RI' RC' : Nat → Int32) (na' ni' dy' vl' db' first' size' : Int32) (HS' : Nat → SV) (Cf' Nf' : Nat → Int32) (len' : Int32) (vb' : Option Nat) (pos' cm' ps' rs' : Int32) (SA' SI' SC' : Nat → Int32) (na2' ni2' dy2' vl2' db2' : Int32) (S' Bg' Pa' Tx' Nu' : Nat → Int32) (st' ln' ps9' : Int32) (fmb' : Bool) (rs9' : Int32) (H1 : Heap) (locs1 : List Loc), lawR B1 RA' RI' RC' na' ni' dy' vl' db' first' size' HS' Cf' len' S' Pa' Tx' st' ln' → B1 ≤ B + 160 → va_P D vwCl (lwL cI cC cS fq h o g cs rh t1 t2 t3 a1 a2 a3 ga Hs h0 x0 y0 z0 i0 j0 k0 h1 x1 y1 z1 i1 j1 k1 h2 x2 y2 z2 i2 j2 k2 h3 x3 y3 z3 i3 j3 k3 h4 x4 y4 z4 i4 j4 k4 ck cn ad tr u1 u2 u3 b1 b2 b3 mo q1 q2 q3 q4 q5 RA' RI' RC' na' ni' dy' vl' db' first' size' HS' Cf' Nf' len' vb' pos' cm' ps' rs' SA' SI' SC' na2' ni2' dy2' vl2' db2' S' Bg' Pa' Tx' Nu' st' ln' ps9' fmb' rs9').flatten H1 → va_D A (lwL cI cC cS fq h o g cs rh t1 t2 t3 a1 a2 a3 ga Hs h0 x0 y0 z0 i0 j0 k0 h1 x1 y1 z1 i1 j1 k1 h2 x2 y2 z2 i2 j2 k2 h3 x3 y3 z3 i3 j3 k3 h4 x4 y4 z4 i4 j4 k4 ck cn ad tr u1 u2 u3 b1 b2 b3 mo q1 q2 q3 q4 q5 RA' RI' RC' na' ni' dy' vl' db' first' size' HS' Cf' Nf' len' vb' pos' cm' ps' rs' SA' SI' SC' na2' ni2' dy2' vl2' db2' S' Bg' Pa' Tx' Nu' st' ln' ps9' fmb' rs9').flatten → va_S A s.heap H1 locs1 → W p l e room_1 s m #[Value.ref b] below meth c H1 locs1 63 4328 (lw_Z below #[Value.ref b] s) (F0 m 809 ls []) := by
      intro B1 RA' RI' RC' na' ni' dy' vl' db' first' size' HS' Cf' Nf' len' vb' pos' cm' ps' rs' SA' SI' SC' na2' ni2' dy2' vl2' db2' S' Bg' Pa' Tx' Nu' st' ln' ps9' fmb' rs9' H1 locs1 hR1 hB1 hP1 hD1 hS1
      refine lv_iinc (v := nI (i + 6)) (lv' := [(3, .int (nI (i + 6))), (2, .ref mo), (1, .ref fq), (0, .ref b)]) hx hb dL_law_809 hl (k := 0) rfl (by rw [show Int32.ofInt 6 = nI 6 from by decide, nI_add]) (by decide) rfl (fun ls hl => ?_)
      refine lv_goto (tgt := 18) hx hb dL_law_812 (by decide) ?_
      exact ih (i + 6) B1 RA' RI' RC' na' ni' dy' vl' db' first' size' HS' Cf' Nf' len' vb' pos' cm' ps' rs' SA' SI' SC' na2' ni2' dy2' vl2' db2' S' Bg' Pa' Tx' Nu' st' ln' ps9' fmb' rs9' H1 locs1 ls hl hR1 (by omega) (by omega) (by omega) hP1 hD1 hS1
    refine lv_aload_n hx hb dL_law_27 rfl (lv_at hl 3 rfl) ?_
    refine lv_iload_n hx hb dL_law_28 rfl (lv_at hl 0 rfl) ?_
    refine va_sld hx hb hXs hbl hbA hS (vp_nI (by omega) (by omega)) dL_law_29 ?_
    refine lv_bipush (v := 31) hx hb dL_law_30 (by decide) ?_
    refine lv_iand hx hb dL_law_32 ?_
    obtain ⟨y, hy⟩ : ∃ y, y = xs (nI i).toNatClampNeg &&& 31 := ⟨_, rfl⟩
    rw [← hy]
    by_cases e0 : y.toInt = 0
    · exact lv_tableIn (off := 107) (tgt := 140) hx hb dL_law_33 (by omega) (by omega) (by rw [e0]; rfl) (by decide) (law_address hx hb hml hown hts hXs hbl hbA hK hA hE hN hH0 hH1 hH2 hH3 hH4 hv1 hv2 hv3 hv4 hv5 hl hR (by omega) hP hD hS K)
    by_cases e1 : y.toInt = 1
    · exact lv_tableIn (off := 130) (tgt := 163) hx hb dL_law_33 (by omega) (by omega) (by rw [e1]; rfl) (by decide) (law_interviewer hx hb hml hown hts hXs hbl hbA hK hA hE hN hH0 hH1 hH2 hH3 hH4 hv1 hv2 hv3 hv4 hv5 hl hR (by omega) hP hD hS K)
    by_cases e2 : y.toInt = 2
    · exact lv_tableIn (off := 163) (tgt := 196) hx hb dL_law_33 (by omega) (by omega) (by rw [e2]; rfl) (by decide) (law_quota hx hb hml hown hts hXs hbl hbA hK hA hE hN hH0 hH1 hH2 hH3 hH4 hv1 hv2 hv3 hv4 hv5 hl hR (by omega) hP hD hS K)
    by_cases e3 : y.toInt = 3
    · exact lv_tableIn (off := 206) (tgt := 239) hx hb dL_law_33 (by omega) (by omega) (by rw [e3]; rfl) (by decide) (law_population hx hb hml hown hts hXs hbl hbA hK hA hE hN hH0 hH1 hH2 hH3 hH4 hv1 hv2 hv3 hv4 hv5 hl hR (by omega) hP hD hS K)
    by_cases e4 : y.toInt = 4
    · exact lv_tableIn (off := 249) (tgt := 282) hx hb dL_law_33 (by omega) (by omega) (by rw [e4]; rfl) (by decide) (law_call hx hb hml hown hts hXs hbl hbA hK hA hE hN hH0 hH1 hH2 hH3 hH4 hv1 hv2 hv3 hv4 hv5 hl hR (by omega) hP hD hS K)
    by_cases e5 : y.toInt = 5
    · exact lv_tableIn (off := 302) (tgt := 335) hx hb dL_law_33 (by omega) (by omega) (by rw [e5]; rfl) (by decide) (law_later hx hb hml hown hts hXs hbl hbA hK hA hE hN hH0 hH1 hH2 hH3 hH4 hv1 hv2 hv3 hv4 hv5 hl hR (by omega) hP hD hS K)
    by_cases e6 : y.toInt = 6
    · exact lv_tableIn (off := 365) (tgt := 398) hx hb dL_law_33 (by omega) (by omega) (by rw [e6]; rfl) (by decide) (law_pass hx hb hml hown hts hXs hbl hbA hK hA hE hN hH0 hH1 hH2 hH3 hH4 hv1 hv2 hv3 hv4 hv5 hl hR (by omega) hP hD hS K)
    by_cases e7 : y.toInt = 7
    · exact lv_tableIn (off := 388) (tgt := 421) hx hb dL_law_33 (by omega) (by omega) (by rw [e7]; rfl) (by decide) (law_set hx hb hml hown hts hXs hbl hbA hK hA hE hN hH0 hH1 hH2 hH3 hH4 hv1 hv2 hv3 hv4 hv5 hl hR (by omega) hP hD hS K)
    by_cases e8 : y.toInt = 8
    · exact lv_tableIn (off := 421) (tgt := 454) hx hb dL_law_33 (by omega) (by omega) (by rw [e8]; rfl) (by decide) (law_addressOf hx hb hml hown hts hXs hbl hbA hK hA hE hN hH0 hH1 hH2 hH3 hH4 hv1 hv2 hv3 hv4 hv5 hl hR (by omega) hP hD hS K)
    by_cases e9 : y.toInt = 9
    · exact lv_tableIn (off := 454) (tgt := 487) hx hb dL_law_33 (by omega) (by omega) (by rw [e9]; rfl) (by decide) (law_interviewerOf hx hb hml hown hts hXs hbl hbA hK hA hE hN hH0 hH1 hH2 hH3 hH4 hv1 hv2 hv3 hv4 hv5 hl hR (by omega) hP hD hS K)
    by_cases e10 : y.toInt = 10
    · exact lv_tableIn (off := 487) (tgt := 520) hx hb dL_law_33 (by omega) (by omega) (by rw [e10]; rfl) (by decide) (law_cellOf hx hb hml hown hts hXs hbl hbA hK hA hE hN hH0 hH1 hH2 hH3 hH4 hv1 hv2 hv3 hv4 hv5 hl hR (by omega) hP hD hS K)
    by_cases e11 : y.toInt = 11
    · exact lv_tableIn (off := 530) (tgt := 563) hx hb dL_law_33 (by omega) (by omega) (by rw [e11]; rfl) (by decide) (law_addresses hx hb hml hown hts hXs hbl hbA hK hA hE hN hH0 hH1 hH2 hH3 hH4 hv1 hv2 hv3 hv4 hv5 hl hR (by omega) hP hD hS K)
    by_cases e12 : y.toInt = 12
    · exact lv_tableIn (off := 553) (tgt := 586) hx hb dL_law_33 (by omega) (by omega) (by rw [e12]; rfl) (by decide) (law_count hx hb hml hown hts hXs hbl hbA hK hA hE hN hH0 hH1 hH2 hH3 hH4 hv1 hv2 hv3 hv4 hv5 hl hR (by omega) hP hD hS K)
    by_cases e13 : y.toInt = 13
    · exact lv_tableIn (off := 576) (tgt := 609) hx hb dL_law_33 (by omega) (by omega) (by rw [e13]; rfl) (by decide) (law_next hx hb hml hown hts hXs hbl hbA hK hA hE hN hH0 hH1 hH2 hH3 hH4 hv1 hv2 hv3 hv4 hv5 hl hR (by omega) hP hD hS K)
    by_cases e14 : y.toInt = 14
    · exact lv_tableIn (off := 609) (tgt := 642) hx hb dL_law_33 (by omega) (by omega) (by rw [e14]; rfl) (by decide) (law_possible hx hb hml hown hts hXs hbl hbA hK hA hE hN hH0 hH1 hH2 hH3 hH4 hv1 hv2 hv3 hv4 hv5 hl hR (by omega) hP hD hS K)
    by_cases e15 : y.toInt = 15
    · exact lv_tableIn (off := 642) (tgt := 675) hx hb dL_law_33 (by omega) (by omega) (by rw [e15]; rfl) (by decide) (law_daysLeft hx hb hml hown hts hXs hbl hbA hK hA hE hN hH0 hH1 hH2 hH3 hH4 hv1 hv2 hv3 hv4 hv5 hl hR (by omega) hP hD hS K)
    by_cases e16 : y.toInt = 16
    · exact lv_tableIn (off := 655) (tgt := 688) hx hb dL_law_33 (by omega) (by omega) (by rw [e16]; rfl) (by decide) (law_rateBits hx hb hml hown hts hXs hbl hbA hK hA hE hN hH0 hH1 hH2 hH3 hH4 hv1 hv2 hv3 hv4 hv5 hl hR (by omega) hP hD hS K)
    by_cases e17 : y.toInt = 17
    · exact lv_tableIn (off := 668) (tgt := 701) hx hb dL_law_33 (by omega) (by omega) (by rw [e17]; rfl) (by decide) (law_partBits hx hb hml hown hts hXs hbl hbA hK hA hE hN hH0 hH1 hH2 hH3 hH4 hv1 hv2 hv3 hv4 hv5 hl hR (by omega) hP hD hS K)
    by_cases e18 : y.toInt = 18
    · exact lv_tableIn (off := 691) (tgt := 724) hx hb dL_law_33 (by omega) (by omega) (by rw [e18]; rfl) (by decide) (law_undo hx hb hml hown hts hXs hbl hbA hK hA hE hN hH0 hH1 hH2 hH3 hH4 hv1 hv2 hv3 hv4 hv5 hl hR (by omega) hP hD hS K)
    by_cases e19 : y.toInt = 19
    · exact lv_tableIn (off := 704) (tgt := 737) hx hb dL_law_33 (by omega) (by omega) (by rw [e19]; rfl) (by decide) (law_type hx hb hml hown hts hXs hbl hbA hK hA hE hN hH0 hH1 hH2 hH3 hH4 hv1 hv2 hv3 hv4 hv5 hl hR (by omega) hP hD hS K)
    by_cases e20 : y.toInt = 20
    · exact lv_tableIn (off := 727) (tgt := 760) hx hb dL_law_33 (by omega) (by omega) (by rw [e20]; rfl) (by decide) (law_clearText hx hb hml hown hts hXs hbl hbA hK hA hE hN hH0 hH1 hH2 hH3 hH4 hv1 hv2 hv3 hv4 hv5 hl hR (by omega) hP hD hS K)
    by_cases e21 : y.toInt = 21
    · exact lv_tableIn (off := 740) (tgt := 773) hx hb dL_law_33 (by omega) (by omega) (by rw [e21]; rfl) (by decide) (law_fault hx hb hml hown hts hXs hbl hbA hK hA hE hN hH0 hH1 hH2 hH3 hH4 hv1 hv2 hv3 hv4 hv5 hl hR (by omega) hP hD hS K)
    by_cases e22 : y.toInt = 22
    · exact lv_tableIn (off := 763) (tgt := 796) hx hb dL_law_33 (by omega) (by omega) (by rw [e22]; rfl) (by decide) (law_play hx hb hml hown hts hXs hbl hbA hK hA hE hN hH0 hH1 hH2 hH3 hH4 hv1 hv2 hv3 hv4 hv5 hl hR (by omega) hP hD hS K)
    exact lv_tableOut (tgt := 809) hx hb dL_law_33 (by omega) (by decide) (K B RA RI RC na ni dy vl db first size HS Cf Nf len vb pos cm ps rs SA SI SC na2 ni2 dy2 vl2 db2 S Bg Pa Tx Nu st ln ps9 fmb rs9 H locs hR (by omega) hP hD hS)
end LAWL
