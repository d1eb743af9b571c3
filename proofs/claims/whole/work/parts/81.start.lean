/-! what the law's start gives: the constants of the enum, the words, the classes of arrays -/
def lwE : List String := ["ADDRESS", "QUOTA", "NONE", "REFUSE", "TAKE", "LATER", "DAY"]
def lwX : List Nat := [53, 59, 62, 65, 68, 71, 74]
def lwV (i : Nat) : Term := .static "FieldQuotas$Verb" (lwE.getD i "") "LFieldQuotas$Verb;"
def lwS (i : Nat) : Term := .string "FieldQuotas$Verb" (lwX.getD i 0)
set_option maxRecDepth 100000 in
theorem nv_ex {args : Array Value} {s : State} (hn : ∀ c ∈ flatC (Jvm.Cond.and given_1 narrow_1), c.before args s = true) : ∀ i : Nat, i < 7 → (Cond.exactly (lwV i) "FieldQuotas$Verb").before args s = true := by
  intro i hi
  rcases (show i = 0 ∨ i = 1 ∨ i = 2 ∨ i = 3 ∨ i = 4 ∨ i = 5 ∨ i = 6 by omega) with rfl | rfl | rfl | rfl | rfl | rfl | rfl
  · exact hn _ (List.mem_of_getElem? (i := 31) rfl)
  · exact hn _ (List.mem_of_getElem? (i := 35) rfl)
  · exact hn _ (List.mem_of_getElem? (i := 40) rfl)
  · exact hn _ (List.mem_of_getElem? (i := 46) rfl)
  · exact hn _ (List.mem_of_getElem? (i := 53) rfl)
  · exact hn _ (List.mem_of_getElem? (i := 61) rfl)
  · exact hn _ (List.mem_of_getElem? (i := 70) rfl)
set_option maxRecDepth 100000 in
theorem nv_ord {args : Array Value} {s : State} (hn : ∀ c ∈ flatC (Jvm.Cond.and given_1 narrow_1), c.before args s = true) : ∀ i : Nat, i < 7 → (Cond.eq (.field (lwV i) "java/lang/Enum" "ordinal" "I") (.int (Int32.ofNat i))).before args s = true := by
  intro i hi
  rcases (show i = 0 ∨ i = 1 ∨ i = 2 ∨ i = 3 ∨ i = 4 ∨ i = 5 ∨ i = 6 by omega) with rfl | rfl | rfl | rfl | rfl | rfl | rfl
  · exact hn _ (List.mem_of_getElem? (i := 32) rfl)
  · exact hn _ (List.mem_of_getElem? (i := 36) rfl)
  · exact hn _ (List.mem_of_getElem? (i := 41) rfl)
  · exact hn _ (List.mem_of_getElem? (i := 47) rfl)
  · exact hn _ (List.mem_of_getElem? (i := 54) rfl)
  · exact hn _ (List.mem_of_getElem? (i := 62) rfl)
  · exact hn _ (List.mem_of_getElem? (i := 71) rfl)
set_option maxRecDepth 100000 in
theorem nv_word {args : Array Value} {s : State} (hn : ∀ c ∈ flatC (Jvm.Cond.and given_1 narrow_1), c.before args s = true) : ∀ i : Nat, i < 7 → (Cond.eq (.field (lwV i) "FieldQuotas$Verb" "word" "Ljava/lang/String;") (lwS i)).before args s = true := by
  intro i hi
  rcases (show i = 0 ∨ i = 1 ∨ i = 2 ∨ i = 3 ∨ i = 4 ∨ i = 5 ∨ i = 6 by omega) with rfl | rfl | rfl | rfl | rfl | rfl | rfl
  · exact hn _ (List.mem_of_getElem? (i := 33) rfl)
  · exact hn _ (List.mem_of_getElem? (i := 37) rfl)
  · exact hn _ (List.mem_of_getElem? (i := 42) rfl)
  · exact hn _ (List.mem_of_getElem? (i := 48) rfl)
  · exact hn _ (List.mem_of_getElem? (i := 55) rfl)
  · exact hn _ (List.mem_of_getElem? (i := 63) rfl)
  · exact hn _ (List.mem_of_getElem? (i := 72) rfl)
set_option maxRecDepth 100000 in
theorem nv_num {args : Array Value} {s : State} (hn : ∀ c ∈ flatC (Jvm.Cond.and given_1 narrow_1), c.before args s = true) : ∀ i : Nat, i < 7 → (Cond.eq (.field (lwV i) "FieldQuotas$Verb" "numbers" "I") (.int (vNum.getD i 0))).before args s = true := by
  intro i hi
  rcases (show i = 0 ∨ i = 1 ∨ i = 2 ∨ i = 3 ∨ i = 4 ∨ i = 5 ∨ i = 6 by omega) with rfl | rfl | rfl | rfl | rfl | rfl | rfl
  · exact hn _ (List.mem_of_getElem? (i := 34) rfl)
  · exact hn _ (List.mem_of_getElem? (i := 38) rfl)
  · exact hn _ (List.mem_of_getElem? (i := 43) rfl)
  · exact hn _ (List.mem_of_getElem? (i := 49) rfl)
  · exact hn _ (List.mem_of_getElem? (i := 56) rfl)
  · exact hn _ (List.mem_of_getElem? (i := 64) rfl)
  · exact hn _ (List.mem_of_getElem? (i := 73) rfl)
set_option maxRecDepth 100000 in
theorem nv_vb {args : Array Value} {s : State} (hn : ∀ c ∈ flatC (Jvm.Cond.and given_1 narrow_1), c.before args s = true) : ∀ i : Nat, i < 7 → (Cond.eq (.elem (.static "FieldQuotas$Script" "VERBS" "[LFieldQuotas$Verb;") (.int (Int32.ofNat i))) (lwV i)).before args s = true := by
  intro i hi
  rcases (show i = 0 ∨ i = 1 ∨ i = 2 ∨ i = 3 ∨ i = 4 ∨ i = 5 ∨ i = 6 by omega) with rfl | rfl | rfl | rfl | rfl | rfl | rfl
  · exact hn _ (List.mem_of_getElem? (i := 9) rfl)
  · exact hn _ (List.mem_of_getElem? (i := 10) rfl)
  · exact hn _ (List.mem_of_getElem? (i := 11) rfl)
  · exact hn _ (List.mem_of_getElem? (i := 12) rfl)
  · exact hn _ (List.mem_of_getElem? (i := 13) rfl)
  · exact hn _ (List.mem_of_getElem? (i := 14) rfl)
  · exact hn _ (List.mem_of_getElem? (i := 15) rfl)
set_option maxRecDepth 100000 in
theorem nv_sw {args : Array Value} {s : State} (hn : ∀ c ∈ flatC (Jvm.Cond.and given_1 narrow_1), c.before args s = true) : ∀ i : Nat, i < 7 → (Cond.eq (.elem (.static "FieldQuotas$1" "$SwitchMap$FieldQuotas$Verb" "[I") (.int (Int32.ofNat i))) (.int (Int32.ofNat (i + 1)))).before args s = true := by
  intro i hi
  rcases (show i = 0 ∨ i = 1 ∨ i = 2 ∨ i = 3 ∨ i = 4 ∨ i = 5 ∨ i = 6 by omega) with rfl | rfl | rfl | rfl | rfl | rfl | rfl
  · exact hn _ (List.mem_of_getElem? (i := 24) rfl)
  · exact hn _ (List.mem_of_getElem? (i := 25) rfl)
  · exact hn _ (List.mem_of_getElem? (i := 26) rfl)
  · exact hn _ (List.mem_of_getElem? (i := 27) rfl)
  · exact hn _ (List.mem_of_getElem? (i := 28) rfl)
  · exact hn _ (List.mem_of_getElem? (i := 29) rfl)
  · exact hn _ (List.mem_of_getElem? (i := 30) rfl)
set_option maxRecDepth 100000 in
theorem nv_sex {args : Array Value} {s : State} (hn : ∀ c ∈ flatC (Jvm.Cond.and given_1 narrow_1), c.before args s = true) : ∀ i : Nat, i < 7 → (Cond.exactly (lwS i) "java/lang/String").before args s = true := by
  intro i hi
  rcases (show i = 0 ∨ i = 1 ∨ i = 2 ∨ i = 3 ∨ i = 4 ∨ i = 5 ∨ i = 6 by omega) with rfl | rfl | rfl | rfl | rfl | rfl | rfl
  · exact hn _ (List.mem_of_getElem? (i := 80) rfl)
  · exact hn _ (List.mem_of_getElem? (i := 91) rfl)
  · exact hn _ (List.mem_of_getElem? (i := 101) rfl)
  · exact hn _ (List.mem_of_getElem? (i := 111) rfl)
  · exact hn _ (List.mem_of_getElem? (i := 124) rfl)
  · exact hn _ (List.mem_of_getElem? (i := 136) rfl)
  · exact hn _ (List.mem_of_getElem? (i := 150) rfl)
set_option maxRecDepth 100000 in
theorem nv_sco {args : Array Value} {s : State} (hn : ∀ c ∈ flatC (Jvm.Cond.and given_1 narrow_1), c.before args s = true) : ∀ i : Nat, i < 7 → (Cond.eq (.field (lwS i) "java/lang/String" "coder" "B") (.int 0)).before args s = true := by
  intro i hi
  rcases (show i = 0 ∨ i = 1 ∨ i = 2 ∨ i = 3 ∨ i = 4 ∨ i = 5 ∨ i = 6 by omega) with rfl | rfl | rfl | rfl | rfl | rfl | rfl
  · exact hn _ (List.mem_of_getElem? (i := 81) rfl)
  · exact hn _ (List.mem_of_getElem? (i := 92) rfl)
  · exact hn _ (List.mem_of_getElem? (i := 102) rfl)
  · exact hn _ (List.mem_of_getElem? (i := 112) rfl)
  · exact hn _ (List.mem_of_getElem? (i := 125) rfl)
  · exact hn _ (List.mem_of_getElem? (i := 137) rfl)
  · exact hn _ (List.mem_of_getElem? (i := 151) rfl)
set_option maxRecDepth 100000 in
theorem nv_sar {args : Array Value} {s : State} (hn : ∀ c ∈ flatC (Jvm.Cond.and given_1 narrow_1), c.before args s = true) : ∀ i : Nat, i < 7 → (Cond.arrayOf (.field (lwS i) "java/lang/String" "value" "[B") .byte).before args s = true := by
  intro i hi
  rcases (show i = 0 ∨ i = 1 ∨ i = 2 ∨ i = 3 ∨ i = 4 ∨ i = 5 ∨ i = 6 by omega) with rfl | rfl | rfl | rfl | rfl | rfl | rfl
  · exact hn _ (List.mem_of_getElem? (i := 82) rfl)
  · exact hn _ (List.mem_of_getElem? (i := 93) rfl)
  · exact hn _ (List.mem_of_getElem? (i := 103) rfl)
  · exact hn _ (List.mem_of_getElem? (i := 113) rfl)
  · exact hn _ (List.mem_of_getElem? (i := 126) rfl)
  · exact hn _ (List.mem_of_getElem? (i := 138) rfl)
  · exact hn _ (List.mem_of_getElem? (i := 152) rfl)
set_option maxRecDepth 100000 in
theorem nv_sle {args : Array Value} {s : State} (hn : ∀ c ∈ flatC (Jvm.Cond.and given_1 narrow_1), c.before args s = true) : ∀ i : Nat, i < 7 → (Cond.eq (.length (.field (lwS i) "java/lang/String" "value" "[B")) (.int (Int32.ofNat (vLen.getD i 0)))).before args s = true := by
  intro i hi
  rcases (show i = 0 ∨ i = 1 ∨ i = 2 ∨ i = 3 ∨ i = 4 ∨ i = 5 ∨ i = 6 by omega) with rfl | rfl | rfl | rfl | rfl | rfl | rfl
  · exact hn _ (List.mem_of_getElem? (i := 83) rfl)
  · exact hn _ (List.mem_of_getElem? (i := 94) rfl)
  · exact hn _ (List.mem_of_getElem? (i := 104) rfl)
  · exact hn _ (List.mem_of_getElem? (i := 114) rfl)
  · exact hn _ (List.mem_of_getElem? (i := 127) rfl)
  · exact hn _ (List.mem_of_getElem? (i := 139) rfl)
  · exact hn _ (List.mem_of_getElem? (i := 153) rfl)
set_option maxRecDepth 100000 in
theorem nv_sel {args : Array Value} {s : State} (hn : ∀ c ∈ flatC (Jvm.Cond.and given_1 narrow_1), c.before args s = true) : ∀ i : Nat, i < 7 → ∀ j : Nat, j < vLen.getD i 0 → (Cond.eq (.elem (.field (lwS i) "java/lang/String" "value" "[B") (.int (Int32.ofNat j))) (.int ((vByt.getD i []).getD j 0))).before args s = true := by
  intro i hi
  rcases (show i = 0 ∨ i = 1 ∨ i = 2 ∨ i = 3 ∨ i = 4 ∨ i = 5 ∨ i = 6 by omega) with rfl | rfl | rfl | rfl | rfl | rfl | rfl
  · intro j hj
    have hj : j < 7 := hj
    rcases (show j = 0 ∨ j = 1 ∨ j = 2 ∨ j = 3 ∨ j = 4 ∨ j = 5 ∨ j = 6 by omega) with rfl | rfl | rfl | rfl | rfl | rfl | rfl
    · exact hn _ (List.mem_of_getElem? (i := 84) rfl)
    · exact hn _ (List.mem_of_getElem? (i := 85) rfl)
    · exact hn _ (List.mem_of_getElem? (i := 86) rfl)
    · exact hn _ (List.mem_of_getElem? (i := 87) rfl)
    · exact hn _ (List.mem_of_getElem? (i := 88) rfl)
    · exact hn _ (List.mem_of_getElem? (i := 89) rfl)
    · exact hn _ (List.mem_of_getElem? (i := 90) rfl)
  · intro j hj
    have hj : j < 5 := hj
    rcases (show j = 0 ∨ j = 1 ∨ j = 2 ∨ j = 3 ∨ j = 4 by omega) with rfl | rfl | rfl | rfl | rfl
    · exact hn _ (List.mem_of_getElem? (i := 95) rfl)
    · exact hn _ (List.mem_of_getElem? (i := 96) rfl)
    · exact hn _ (List.mem_of_getElem? (i := 97) rfl)
    · exact hn _ (List.mem_of_getElem? (i := 98) rfl)
    · exact hn _ (List.mem_of_getElem? (i := 99) rfl)
  · intro j hj
    have hj : j < 4 := hj
    rcases (show j = 0 ∨ j = 1 ∨ j = 2 ∨ j = 3 by omega) with rfl | rfl | rfl | rfl
    · exact hn _ (List.mem_of_getElem? (i := 105) rfl)
    · exact hn _ (List.mem_of_getElem? (i := 106) rfl)
    · exact hn _ (List.mem_of_getElem? (i := 107) rfl)
    · exact hn _ (List.mem_of_getElem? (i := 108) rfl)
  · intro j hj
    have hj : j < 6 := hj
    rcases (show j = 0 ∨ j = 1 ∨ j = 2 ∨ j = 3 ∨ j = 4 ∨ j = 5 by omega) with rfl | rfl | rfl | rfl | rfl | rfl
    · exact hn _ (List.mem_of_getElem? (i := 115) rfl)
    · exact hn _ (List.mem_of_getElem? (i := 116) rfl)
    · exact hn _ (List.mem_of_getElem? (i := 117) rfl)
    · exact hn _ (List.mem_of_getElem? (i := 118) rfl)
    · exact hn _ (List.mem_of_getElem? (i := 119) rfl)
    · exact hn _ (List.mem_of_getElem? (i := 120) rfl)
  · intro j hj
    have hj : j < 4 := hj
    rcases (show j = 0 ∨ j = 1 ∨ j = 2 ∨ j = 3 by omega) with rfl | rfl | rfl | rfl
    · exact hn _ (List.mem_of_getElem? (i := 128) rfl)
    · exact hn _ (List.mem_of_getElem? (i := 129) rfl)
    · exact hn _ (List.mem_of_getElem? (i := 130) rfl)
    · exact hn _ (List.mem_of_getElem? (i := 131) rfl)
  · intro j hj
    have hj : j < 5 := hj
    rcases (show j = 0 ∨ j = 1 ∨ j = 2 ∨ j = 3 ∨ j = 4 by omega) with rfl | rfl | rfl | rfl | rfl
    · exact hn _ (List.mem_of_getElem? (i := 140) rfl)
    · exact hn _ (List.mem_of_getElem? (i := 141) rfl)
    · exact hn _ (List.mem_of_getElem? (i := 142) rfl)
    · exact hn _ (List.mem_of_getElem? (i := 143) rfl)
    · exact hn _ (List.mem_of_getElem? (i := 144) rfl)
  · intro j hj
    have hj : j < 3 := hj
    rcases (show j = 0 ∨ j = 1 ∨ j = 2 by omega) with rfl | rfl | rfl
    · exact hn _ (List.mem_of_getElem? (i := 154) rfl)
    · exact hn _ (List.mem_of_getElem? (i := 155) rfl)
    · exact hn _ (List.mem_of_getElem? (i := 156) rfl)
set_option maxRecDepth 100000 in
theorem nv_sne {args : Array Value} {s : State} (hn : ∀ c ∈ flatC (Jvm.Cond.and given_1 narrow_1), c.before args s = true) : ∀ i j : Nat, i < 7 → j < 7 → i ≠ j → (Cond.not (Cond.eq (lwS i) (lwS j))).before args s = true ∨ (Cond.not (Cond.eq (lwS j) (lwS i))).before args s = true := by
  intro i j hi hj hij
  rcases (show i = 0 ∨ i = 1 ∨ i = 2 ∨ i = 3 ∨ i = 4 ∨ i = 5 ∨ i = 6 by omega) with rfl | rfl | rfl | rfl | rfl | rfl | rfl
  · rcases (show j = 1 ∨ j = 2 ∨ j = 3 ∨ j = 4 ∨ j = 5 ∨ j = 6 by omega) with rfl | rfl | rfl | rfl | rfl | rfl
    · exact Or.inl (hn _ (List.mem_of_getElem? (i := 100) rfl))
    · exact Or.inl (hn _ (List.mem_of_getElem? (i := 109) rfl))
    · exact Or.inl (hn _ (List.mem_of_getElem? (i := 121) rfl))
    · exact Or.inl (hn _ (List.mem_of_getElem? (i := 132) rfl))
    · exact Or.inl (hn _ (List.mem_of_getElem? (i := 145) rfl))
    · exact Or.inl (hn _ (List.mem_of_getElem? (i := 157) rfl))
  · rcases (show j = 0 ∨ j = 2 ∨ j = 3 ∨ j = 4 ∨ j = 5 ∨ j = 6 by omega) with rfl | rfl | rfl | rfl | rfl | rfl
    · exact Or.inr (hn _ (List.mem_of_getElem? (i := 100) rfl))
    · exact Or.inl (hn _ (List.mem_of_getElem? (i := 110) rfl))
    · exact Or.inl (hn _ (List.mem_of_getElem? (i := 122) rfl))
    · exact Or.inl (hn _ (List.mem_of_getElem? (i := 133) rfl))
    · exact Or.inl (hn _ (List.mem_of_getElem? (i := 146) rfl))
    · exact Or.inl (hn _ (List.mem_of_getElem? (i := 158) rfl))
  · rcases (show j = 0 ∨ j = 1 ∨ j = 3 ∨ j = 4 ∨ j = 5 ∨ j = 6 by omega) with rfl | rfl | rfl | rfl | rfl | rfl
    · exact Or.inr (hn _ (List.mem_of_getElem? (i := 109) rfl))
    · exact Or.inr (hn _ (List.mem_of_getElem? (i := 110) rfl))
    · exact Or.inl (hn _ (List.mem_of_getElem? (i := 123) rfl))
    · exact Or.inl (hn _ (List.mem_of_getElem? (i := 134) rfl))
    · exact Or.inl (hn _ (List.mem_of_getElem? (i := 147) rfl))
    · exact Or.inl (hn _ (List.mem_of_getElem? (i := 159) rfl))
  · rcases (show j = 0 ∨ j = 1 ∨ j = 2 ∨ j = 4 ∨ j = 5 ∨ j = 6 by omega) with rfl | rfl | rfl | rfl | rfl | rfl
    · exact Or.inr (hn _ (List.mem_of_getElem? (i := 121) rfl))
    · exact Or.inr (hn _ (List.mem_of_getElem? (i := 122) rfl))
    · exact Or.inr (hn _ (List.mem_of_getElem? (i := 123) rfl))
    · exact Or.inl (hn _ (List.mem_of_getElem? (i := 135) rfl))
    · exact Or.inl (hn _ (List.mem_of_getElem? (i := 148) rfl))
    · exact Or.inl (hn _ (List.mem_of_getElem? (i := 160) rfl))
  · rcases (show j = 0 ∨ j = 1 ∨ j = 2 ∨ j = 3 ∨ j = 5 ∨ j = 6 by omega) with rfl | rfl | rfl | rfl | rfl | rfl
    · exact Or.inr (hn _ (List.mem_of_getElem? (i := 132) rfl))
    · exact Or.inr (hn _ (List.mem_of_getElem? (i := 133) rfl))
    · exact Or.inr (hn _ (List.mem_of_getElem? (i := 134) rfl))
    · exact Or.inr (hn _ (List.mem_of_getElem? (i := 135) rfl))
    · exact Or.inl (hn _ (List.mem_of_getElem? (i := 149) rfl))
    · exact Or.inl (hn _ (List.mem_of_getElem? (i := 161) rfl))
  · rcases (show j = 0 ∨ j = 1 ∨ j = 2 ∨ j = 3 ∨ j = 4 ∨ j = 6 by omega) with rfl | rfl | rfl | rfl | rfl | rfl
    · exact Or.inr (hn _ (List.mem_of_getElem? (i := 145) rfl))
    · exact Or.inr (hn _ (List.mem_of_getElem? (i := 146) rfl))
    · exact Or.inr (hn _ (List.mem_of_getElem? (i := 147) rfl))
    · exact Or.inr (hn _ (List.mem_of_getElem? (i := 148) rfl))
    · exact Or.inr (hn _ (List.mem_of_getElem? (i := 149) rfl))
    · exact Or.inl (hn _ (List.mem_of_getElem? (i := 162) rfl))
  · rcases (show j = 0 ∨ j = 1 ∨ j = 2 ∨ j = 3 ∨ j = 4 ∨ j = 5 by omega) with rfl | rfl | rfl | rfl | rfl | rfl
    · exact Or.inr (hn _ (List.mem_of_getElem? (i := 157) rfl))
    · exact Or.inr (hn _ (List.mem_of_getElem? (i := 158) rfl))
    · exact Or.inr (hn _ (List.mem_of_getElem? (i := 159) rfl))
    · exact Or.inr (hn _ (List.mem_of_getElem? (i := 160) rfl))
    · exact Or.inr (hn _ (List.mem_of_getElem? (i := 161) rfl))
    · exact Or.inr (hn _ (List.mem_of_getElem? (i := 162) rfl))
set_option maxRecDepth 100000 in
set_option maxHeartbeats 4000000 in
/-- the constants, at the law's start -/
theorem wE_start {args : Array Value} {s : State} (hn : ∀ c ∈ flatC (Jvm.Cond.and given_1 narrow_1), c.before args s = true) (hts : ∀ w ∈ lw_tbl, w.before args s = true) {A : Nat → Prop} (hA : ∀ a : Nat, a < s.heap.size → ¬ A a) : ∃ (ad adK adV : Nat → Nat) (tV tS : Nat), wE ad adK adV tV tS A s s.heap := by
  obtain ⟨adK, adV, hSt, hSe⟩ := vk_Sof (N := 7) (tm := lwS) (len := vLen) (byt := vByt) (fun i hi => vLen_lt hi) (nv_sex hn) (nv_sco hn) (nv_sar hn) (nv_sle hn) (nv_sel hn) (nv_sne hn) hA
  have h0 : ∀ i : Nat, ∃ t : Nat, i < 7 → (lwV i).eval args s none [] s = some (.ref t) ∧ va_O "FieldQuotas$Verb" t A s s.heap := by
    intro i
    by_cases hi : i < 7
    · obtain ⟨a, c, cell, k, q1, -⟩ := Cond.exactly_spec (nv_ex hn i hi)
      exact ⟨a, fun _ => ⟨q1, va_Oof (nv_ex hn i hi) q1 hA⟩⟩
    · exact ⟨0, fun h => absurd h hi⟩
  obtain ⟨ad, had⟩ := Classical.axiomOfChoice h0
  obtain ⟨tV, eV, hV⟩ := va_Tof (s := s) (args := args) (tm := .static "FieldQuotas$Script" "VERBS" "[LFieldQuotas$Verb;") (ty := .object RX7) (N := 7) (f := fun k => .ref (ad k)) (by decide) (hn _ (List.mem_of_getElem? (i := 6) rfl)) (va_eqt (hn _ (List.mem_of_getElem? (i := 7) rfl))) (fun j hj => va_eqv (nv_vb hn j hj) (had j hj).1) hA
  obtain ⟨tS, eS, hSw⟩ := va_Tof (s := s) (args := args) (tm := .static "FieldQuotas$1" "$SwitchMap$FieldQuotas$Verb" "[I") (ty := .int) (N := 7) (f := fun j => .int (Int32.ofNat (j + 1))) (by decide) (hn _ (List.mem_of_getElem? (i := 22) rfl)) (va_eqt (hn _ (List.mem_of_getElem? (i := 23) rfl))) (fun j hj => va_eqt (nv_sw hn j hj)) hA
  refine ⟨ad, adK, adV, tV, tS, hSt, ?_, ?_, ?_, hV, ?_, ?_, ?_, ?_, ?_, hSw⟩
  · exact va_Zof (lwt3 hts 81 rfl : (Cond.laysStatic RJ0 "COMPACT_STRINGS" "Z").before args s = true) (lwt1 hts 11 rfl : (Cond.initialized RJ0).before args s = true) (va_eqt (hn _ (List.mem_of_getElem? (i := 16) rfl))) hA
  · exact va_Zqof (lwt3 hts 101 rfl : (Cond.laysStatic RJ3 "SIOOBE_FORMATTER" "Ljava/util/function/BiFunction;").before args s = true) (lwt1 hts 13 rfl : (Cond.initialized RJ3).before args s = true) (hn _ (List.mem_of_getElem? (i := 17) rfl)) hA
  · exact va_Zof (lwt3 hts 67 rfl : (Cond.laysStatic RX4 "VERBS" "[LFieldQuotas$Verb;").before args s = true) (lwt1 hts 6 rfl : (Cond.initialized RX4).before args s = true) eV hA
  · exact va_Efof (E := "FieldQuotas$Verb") (d0 := "LFieldQuotas$Verb;") (nm := lwE) (tm := lwS) (fun i hi => (had i hi).1) (nv_word hn) hSe hA
  · exact va_Efof (E := "FieldQuotas$Verb") (d0 := "LFieldQuotas$Verb;") (nm := lwE) (tm := fun i => .int (vNum.getD i 0)) (fun i hi => (had i hi).1) (nv_num hn) (fun i hi => rfl) hA
  · exact va_Efof (E := "FieldQuotas$Verb") (d0 := "LFieldQuotas$Verb;") (nm := lwE) (tm := fun i => .int (Int32.ofNat i)) (fun i hi => (had i hi).1) (nv_ord hn) (fun i hi => rfl) hA
  · exact fun k hk => (had k hk).2
  · exact va_Zof (lwt3 hts 145 rfl : (Cond.laysStatic RX0 "$SwitchMap$FieldQuotas$Verb" "[I").before args s = true) (lwt1 hts 15 rfl : (Cond.initialized RX0).before args s = true) eS hA
theorem wN_start {args : Array Value} {s : State} (hts : ∀ w ∈ lw_tbl, w.before args s = true) : wN s :=
  ⟨va_Nw.of rfl (lwt3 hts 39 rfl : (Cond.methodLinkNest RX4 23 yX8_isWithin RX8).before args s = true), va_Nw.of rfl (lwt1 hts 189 rfl : (Cond.methodLinkNest RX5 50 yX8_isWithin RX8).before args s = true), va_Nw.of rfl (lwt1 hts 212 rfl : (Cond.methodLinkNest RX5 66 yX8_isCell RX8).before args s = true), va_Nw.of rfl (lwt2 hts 12 rfl : (Cond.methodLinkNest RX5 89 yX8_isTime RX8).before args s = true), va_Nw.of rfl (lwt5 hts 11 rfl : (Cond.fieldLinkNest RX4 38 RX7 "word" "Ljava/lang/String;" RX8).before args s = true), va_Nw.of rfl (lwt5 hts 14 rfl : (Cond.fieldLinkNest RX4 49 RX7 "numbers" "I" RX8).before args s = true)⟩
theorem wAO_start {args : Array Value} {s : State} (hts : ∀ w ∈ lw_tbl, w.before args s = true) : wAO s := va_AO.of (lwt1 hts 90 rfl : (Cond.arrayOver (.object RX5)).before args s = true)
/-- the classes of the arrays -/
theorem ty_start {args : Array Value} {s : State} (hts : ∀ w ∈ lw_tbl, w.before args s = true) {D : va_G} (hK : va_K D vwCl [] s) : ∃ cI cC cS, va_K D vwCl (TY cI cC cS) s := by
  obtain ⟨cI, kI, pI, i1, i2, i3⟩ := Cond.arrayClass_spec (lwt1 hts 43 rfl : (Cond.arrayClass .int).before args s = true)
  obtain ⟨cC, kC, pC, j1, j2, j3⟩ := Cond.arrayClass_spec (lwt1 hts 124 rfl : (Cond.arrayClass .char).before args s = true)
  obtain ⟨pS, cS, kS, l1, l2, l3, l4, l5⟩ := Cond.arrayOver_spec (lwt1 hts 90 rfl : (Cond.arrayOver (.object RX5)).before args s = true)
  refine ⟨cI, cC, cS, hK.1, fun k q hq => ?_⟩
  match k, hq with
  | 0, hq => cases hq; exact ⟨fun n z => ⟨fun k h => (by cases h), kI, i2, pI, i3⟩, i1⟩
  | 1, hq => cases hq; exact ⟨fun n z => ⟨fun k h => (by cases h), kC, j2, pC, j3⟩, j1⟩
  | 2, hq => cases hq; exact ⟨fun n z => ⟨fun k h => (by cases h), kS, l3, pS, l4⟩, kS, pS, l3, l4, l1, l5⟩
  | k + 3, hq => simp [TY] at hq
/-- the classes of the objects -/
theorem kn_start {args : Array Value} {s : State} (hts : ∀ w ∈ lw_tbl, w.before args s = true) : ∃ D : va_G, va_K D vwCl [] s := by
  obtain ⟨c0, i0, h0⟩ := u_known (C := RX1) (T := TX1) (N := 3) (n := 3) (lw_wsX10 hts) (fun _ h => h) (lwt1 hts 84 rfl : (Cond.instantiable RX1 3).before args s = true)
  obtain ⟨c1, i1, h1⟩ := u_known (C := RX2) (T := TX2) (N := 1) (n := 1) (lw_wsX20 hts) (fun _ h => h) (lwt1 hts 74 rfl : (Cond.instantiable RX2 1).before args s = true)
  obtain ⟨c2, i2, h2⟩ := u_known (C := RX3) (T := TX3) (N := 5) (n := 5) (lw_wsX30 hts) (fun _ h => h) (lwt1 hts 126 rfl : (Cond.instantiable RX3 5).before args s = true)
  obtain ⟨c3, i3, h3⟩ := u_known (C := RX4) (T := TX4) (N := 5) (n := 5) (lw_wsX40 hts) (fun _ h => h) (lwt1 hts 103 rfl : (Cond.instantiable RX4 5).before args s = true)
  obtain ⟨c4, i4, h4⟩ := u_known (C := RX5) (T := TX5) (N := 8) (n := 8) (lw_wsX50 hts) (fun _ h => h) (lwt1 hts 25 rfl : (Cond.instantiable RX5 8).before args s = true)
  obtain ⟨c5, i5, h5⟩ := u_known (C := RX6) (T := TX6) (N := 2) (n := 2) (lw_wsX60 hts) (fun _ h => h) (lwt1 hts 31 rfl : (Cond.instantiable RX6 2).before args s = true)
  obtain ⟨c6, i6, h6⟩ := u_known (C := RX8) (T := TX8) (N := 5) (n := 5) (lw_wsX80 hts) (fun _ h => h) (lwt1 hts 17 rfl : (Cond.instantiable RX8 5).before args s = true)
  obtain ⟨c7, i7, h7⟩ := u_known (C := RX9) (T := TX9) (N := 10) (n := 10) (lw_wsX90 hts) (fun _ h => h) (lwt3 hts 186 rfl : (Cond.instantiable RX9 10).before args s = true)
  refine ⟨(fun k => ([c0, c1, c2, c3, c4, c5, c6, c7] : List ClassId).getD k c0, fun k => ([i0, i1, i2, i3, i4, i5, i6, i7] : List (Nat → Nat)).getD k i0), fun k q hq => ?_, fun k q h => by simp at h⟩
  match k, hq with
  | 0, hq => cases hq; exact h0
  | 1, hq => cases hq; exact h1
  | 2, hq => cases hq; exact h2
  | 3, hq => cases hq; exact h3
  | 4, hq => cases hq; exact h4
  | 5, hq => cases hq; exact h5
  | 6, hq => cases hq; exact h6
  | 7, hq => cases hq; exact h7
  | k + 8, hq => simp [vwCl] at hq
