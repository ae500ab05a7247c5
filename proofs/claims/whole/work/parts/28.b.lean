/-! the places of that world -/
theorem tmN_0 (ad : Nat → Nat → Nat) (tc : Nat → ClassId) (i : Nat) {n : Nat} : tmN n ad tc 0 i = .inl (10, [none, none, some (.ref (ad 1 (0))), some (.ref (ad 2 (0))), some (.ref (ad 3 (0))), none, some (.ref (ad 4 (0))), some (.ref (ad 5 (0))), some (.ref (ad 6 (0))), some (.ref (ad 7 (0))), none, some (.ref (ad 8 (0))), some (.ref (ad 9 (0))), some (.ref (ad 10 (0))), some (.ref (ad 11 (0))), some (.ref (ad 11 (1)))]) := rfl
theorem okN_0 {i : Nat} (h : i < 1) : okN 0 i := Or.inl h
theorem tmN_1 (ad : Nat → Nat → Nat) (tc : Nat → ClassId) (i : Nat) {n : Nat} : tmN n ad tc 1 i = .inr (.inl (tc 0, 8)) := rfl
theorem okN_1 {i : Nat} (h : i < 1) : okN 1 i := Or.inl h
theorem tmN_2 (ad : Nat → Nat → Nat) (tc : Nat → ClassId) (i : Nat) {n : Nat} : tmN n ad tc 2 i = .inr (.inl (tc 0, 8)) := rfl
theorem okN_2 {i : Nat} (h : i < 1) : okN 2 i := Or.inl h
theorem tmN_3 (ad : Nat → Nat → Nat) (tc : Nat → ClassId) (i : Nat) {n : Nat} : tmN n ad tc 3 i = .inr (.inl (tc 0, 8)) := rfl
theorem okN_3 {i : Nat} (h : i < 1) : okN 3 i := Or.inl h
theorem tmN_4 (ad : Nat → Nat → Nat) (tc : Nat → ClassId) (i : Nat) {n : Nat} : tmN n ad tc 4 i = .inr (.inl (tc 0, 12)) := rfl
theorem okN_4 {i : Nat} (h : i < 1) : okN 4 i := Or.inl h
theorem tmN_5 (ad : Nat → Nat → Nat) (tc : Nat → ClassId) (i : Nat) {n : Nat} : tmN n ad tc 5 i = .inr (.inl (tc 0, 12)) := rfl
theorem okN_5 {i : Nat} (h : i < 1) : okN 5 i := Or.inl h
theorem tmN_6 (ad : Nat → Nat → Nat) (tc : Nat → ClassId) (i : Nat) {n : Nat} : tmN n ad tc 6 i = .inr (.inl (tc 0, 12)) := rfl
theorem okN_6 {i : Nat} (h : i < 1) : okN 6 i := Or.inl h
theorem tmN_7 (ad : Nat → Nat → Nat) (tc : Nat → ClassId) (i : Nat) {n : Nat} : tmN n ad tc 7 i = .inr (.inl (tc 0, 12)) := rfl
theorem okN_7 {i : Nat} (h : i < 1) : okN 7 i := Or.inl h
theorem tmN_8 (ad : Nat → Nat → Nat) (tc : Nat → ClassId) (i : Nat) {n : Nat} : tmN n ad tc 8 i = .inr (.inl (tc 0, 12)) := rfl
theorem okN_8 {i : Nat} (h : i < 1) : okN 8 i := Or.inl h
theorem tmN_9 (ad : Nat → Nat → Nat) (tc : Nat → ClassId) (i : Nat) {n : Nat} : tmN n ad tc 9 i = .inr (.inl (tc 0, 12)) := rfl
theorem okN_9 {i : Nat} (h : i < 1) : okN 9 i := Or.inl h
theorem tmN_10 (ad : Nat → Nat → Nat) (tc : Nat → ClassId) (i : Nat) {n : Nat} : tmN n ad tc 10 i = .inr (.inl (tc 0, 12)) := rfl
theorem okN_10 {i : Nat} (h : i < 1) : okN 10 i := Or.inl h
theorem tmN_11 (ad : Nat → Nat → Nat) (tc : Nat → ClassId) (i : Nat) {n : Nat} : tmN n ad tc 11 i = .inl (9, [none, some (.ref (ad 12 (i))), some (.ref (ad 13 (i))), some (.ref (ad 14 (i))), some (.ref (ad 15 (i))), some (.ref (ad 16 (i))), some (.ref (ad 17 (i))), some (.ref (ad 18 (i))), some (.ref (ad 19 (i))), some (.ref (ad 20 (i))), some (.ref (ad 21 (i))), some (.ref (ad 22 (i))), some (.ref (ad 23 (i))), some (.ref (ad 24 (i))), some (.ref (ad 0 (0)))]) := rfl
theorem okN_11 {i : Nat} (h : i < 2) : okN 11 i := Or.inl h
theorem tmN_12 (ad : Nat → Nat → Nat) (tc : Nat → ClassId) (i : Nat) {n : Nat} : tmN n ad tc 12 i = .inr (.inl (tc 0, 12)) := rfl
theorem okN_12 {i : Nat} (h : i < 2) : okN 12 i := Or.inl h
theorem tmN_13 (ad : Nat → Nat → Nat) (tc : Nat → ClassId) (i : Nat) {n : Nat} : tmN n ad tc 13 i = .inr (.inl (tc 0, 12)) := rfl
theorem okN_13 {i : Nat} (h : i < 2) : okN 13 i := Or.inl h
theorem tmN_14 (ad : Nat → Nat → Nat) (tc : Nat → ClassId) (i : Nat) {n : Nat} : tmN n ad tc 14 i = .inr (.inl (tc 0, 36)) := rfl
theorem okN_14 {i : Nat} (h : i < 2) : okN 14 i := Or.inl h
theorem tmN_15 (ad : Nat → Nat → Nat) (tc : Nat → ClassId) (i : Nat) {n : Nat} : tmN n ad tc 15 i = .inr (.inl (tc 0, 36)) := rfl
theorem okN_15 {i : Nat} (h : i < 2) : okN 15 i := Or.inl h
theorem tmN_16 (ad : Nat → Nat → Nat) (tc : Nat → ClassId) (i : Nat) {n : Nat} : tmN n ad tc 16 i = .inr (.inl (tc 0, 12)) := rfl
theorem okN_16 {i : Nat} (h : i < 2) : okN 16 i := Or.inl h
theorem tmN_17 (ad : Nat → Nat → Nat) (tc : Nat → ClassId) (i : Nat) {n : Nat} : tmN n ad tc 17 i = .inr (.inl (tc 0, 12)) := rfl
theorem okN_17 {i : Nat} (h : i < 2) : okN 17 i := Or.inl h
theorem tmN_18 (ad : Nat → Nat → Nat) (tc : Nat → ClassId) (i : Nat) {n : Nat} : tmN n ad tc 18 i = .inr (.inl (tc 0, 8)) := rfl
theorem okN_18 {i : Nat} (h : i < 2) : okN 18 i := Or.inl h
theorem tmN_19 (ad : Nat → Nat → Nat) (tc : Nat → ClassId) (i : Nat) {n : Nat} : tmN n ad tc 19 i = .inr (.inl (tc 0, 96)) := rfl
theorem okN_19 {i : Nat} (h : i < 2) : okN 19 i := Or.inl h
theorem tmN_20 (ad : Nat → Nat → Nat) (tc : Nat → ClassId) (i : Nat) {n : Nat} : tmN n ad tc 20 i = .inr (.inl (tc 0, 12)) := rfl
theorem okN_20 {i : Nat} (h : i < 2) : okN 20 i := Or.inl h
theorem tmN_21 (ad : Nat → Nat → Nat) (tc : Nat → ClassId) (i : Nat) {n : Nat} : tmN n ad tc 21 i = .inr (.inl (tc 0, 12)) := rfl
theorem okN_21 {i : Nat} (h : i < 2) : okN 21 i := Or.inl h
theorem tmN_22 (ad : Nat → Nat → Nat) (tc : Nat → ClassId) (i : Nat) {n : Nat} : tmN n ad tc 22 i = .inr (.inl (tc 0, 12)) := rfl
theorem okN_22 {i : Nat} (h : i < 2) : okN 22 i := Or.inl h
theorem tmN_23 (ad : Nat → Nat → Nat) (tc : Nat → ClassId) (i : Nat) {n : Nat} : tmN n ad tc 23 i = .inr (.inl (tc 0, 12)) := rfl
theorem okN_23 {i : Nat} (h : i < 2) : okN 23 i := Or.inl h
theorem tmN_24 (ad : Nat → Nat → Nat) (tc : Nat → ClassId) (i : Nat) {n : Nat} : tmN n ad tc 24 i = .inr (.inl (tc 0, 12)) := rfl
theorem okN_24 {i : Nat} (h : i < 2) : okN 24 i := Or.inl h
theorem tmN_25 (ad : Nat → Nat → Nat) (tc : Nat → ClassId) (i : Nat) {n : Nat} : tmN n ad tc 25 i = .inr (.inl (tc 0, n)) := rfl
theorem okN_25 {i : Nat} (h : i < 1) : okN 25 i := Or.inr ⟨rfl, by omega⟩
theorem tysN_0 (tc : Nat → ClassId) : (tysM tc)[0]? = some (tc 0, .int) := rfl
