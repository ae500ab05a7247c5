/-! the world C: families of cells -/
def szC : Nat → Nat := fun f => match f with
  | 0 => 1
  | 1 => 1
  | 2 => 1
  | 3 => 1
  | 4 => 1
  | 5 => 1
  | 6 => 8
  | 7 => 12
  | 8 => 12
  | 9 => 13
  | 10 => 13
  | 11 => 13
  | 12 => 2
  | 13 => 2
  | 14 => 2
  | 15 => 2
  | 16 => 24
  | 17 => 24
  | 18 => 24
  | 19 => 24
  | _ => 0
def okC (f i : Nat) : Prop := i < szC f
def tmC (ad : Nat → Nat → Nat) (tc : Nat → ClassId) : Nat → Nat → zT := fun f i => match f with
  | 0 => .inl (8, [some (.ref (ad 1 (0))), some (.ref (ad 12 (0))), some (.ref (ad 12 (1))), some (.ref (ad 9 (12)))])
  | 1 => .inl (0, [some (.ref (ad 2 (0))), some (.ref (ad 3 (0))), some (.ref (ad 4 (0))), some (.ref (ad 5 (0))), none, none, none])
  | 2 => .inr (.inr (tc 1, 8, fun k => ad 6 (k)))
  | 3 => .inr (.inr (tc 2, 12, fun k => ad 7 (k)))
  | 4 => .inr (.inr (tc 3, 12, fun k => ad 8 (k)))
  | 5 => .inr (.inl (tc 0, 12))
  | 6 => .inl (2, [none, none, none])
  | 7 => .inl (1, [none, none, none, none, none])
  | 8 => .inl (3, [some (.ref (ad 9 (i))), none, none, none])
  | 9 => .inl (4, [some (.ref (ad 10 (i))), some (.ref (ad 11 (i)))])
  | 10 => .inr (.inl (tc 0, 8))
  | 11 => .inr (.inl (tc 0, 8))
  | 12 => .inl (5, [some (.ref (ad 1 (0))), some (.ref (ad 13 (i))), some (.ref (ad 14 (i))), some (.ref (ad 15 (i))), none, none])
  | 13 => .inr (.inr (tc 4, 12, fun k => ad 16 (12 * i + k)))
  | 14 => .inr (.inr (tc 5, 12, fun k => ad 17 (12 * i + k)))
  | 15 => .inr (.inl (tc 0, 12))
  | 16 => .inl (6, [none, none, none, none, none, none])
  | 17 => .inl (7, [none, none, some (.ref (ad 18 (i))), some (.ref (ad 19 (i))), none, none])
  | 18 => .inr (.inl (tc 0, 3))
  | 19 => .inr (.inl (tc 0, 3))
  | _ => .inl (0, [])
def tysC (tc : Nat → ClassId) : List (ClassId × FieldType) := [(tc 0, .int), (tc 1, .object "ZipCanopy$Platform"), (tc 2, .object "ZipCanopy$Line"), (tc 3, .object "ZipCanopy$Rider"), (tc 4, .object "ZipCanopy$Trip"), (tc 5, .object "ZipCanopy$Trolleys")]
theorem tmC_0 (ad : Nat → Nat → Nat) (tc : Nat → ClassId) (i : Nat) : tmC ad tc 0 i = .inl (8, [some (.ref (ad 1 (0))), some (.ref (ad 12 (0))), some (.ref (ad 12 (1))), some (.ref (ad 9 (12)))]) := rfl
theorem okC_0 {i : Nat} (h : i < 1) : okC 0 i := h
theorem tmC_1 (ad : Nat → Nat → Nat) (tc : Nat → ClassId) (i : Nat) : tmC ad tc 1 i = .inl (0, [some (.ref (ad 2 (0))), some (.ref (ad 3 (0))), some (.ref (ad 4 (0))), some (.ref (ad 5 (0))), none, none, none]) := rfl
theorem okC_1 {i : Nat} (h : i < 1) : okC 1 i := h
theorem tmC_2 (ad : Nat → Nat → Nat) (tc : Nat → ClassId) (i : Nat) : tmC ad tc 2 i = .inr (.inr (tc 1, 8, fun k => ad 6 (k))) := rfl
theorem okC_2 {i : Nat} (h : i < 1) : okC 2 i := h
theorem tmC_3 (ad : Nat → Nat → Nat) (tc : Nat → ClassId) (i : Nat) : tmC ad tc 3 i = .inr (.inr (tc 2, 12, fun k => ad 7 (k))) := rfl
theorem okC_3 {i : Nat} (h : i < 1) : okC 3 i := h
theorem tmC_4 (ad : Nat → Nat → Nat) (tc : Nat → ClassId) (i : Nat) : tmC ad tc 4 i = .inr (.inr (tc 3, 12, fun k => ad 8 (k))) := rfl
theorem okC_4 {i : Nat} (h : i < 1) : okC 4 i := h
theorem tmC_5 (ad : Nat → Nat → Nat) (tc : Nat → ClassId) (i : Nat) : tmC ad tc 5 i = .inr (.inl (tc 0, 12)) := rfl
theorem okC_5 {i : Nat} (h : i < 1) : okC 5 i := h
theorem tmC_6 (ad : Nat → Nat → Nat) (tc : Nat → ClassId) (i : Nat) : tmC ad tc 6 i = .inl (2, [none, none, none]) := rfl
theorem okC_6 {i : Nat} (h : i < 8) : okC 6 i := h
theorem tmC_7 (ad : Nat → Nat → Nat) (tc : Nat → ClassId) (i : Nat) : tmC ad tc 7 i = .inl (1, [none, none, none, none, none]) := rfl
theorem okC_7 {i : Nat} (h : i < 12) : okC 7 i := h
theorem tmC_8 (ad : Nat → Nat → Nat) (tc : Nat → ClassId) (i : Nat) : tmC ad tc 8 i = .inl (3, [some (.ref (ad 9 (i))), none, none, none]) := rfl
theorem okC_8 {i : Nat} (h : i < 12) : okC 8 i := h
theorem tmC_9 (ad : Nat → Nat → Nat) (tc : Nat → ClassId) (i : Nat) : tmC ad tc 9 i = .inl (4, [some (.ref (ad 10 (i))), some (.ref (ad 11 (i)))]) := rfl
theorem okC_9 {i : Nat} (h : i < 13) : okC 9 i := h
theorem tmC_10 (ad : Nat → Nat → Nat) (tc : Nat → ClassId) (i : Nat) : tmC ad tc 10 i = .inr (.inl (tc 0, 8)) := rfl
theorem okC_10 {i : Nat} (h : i < 13) : okC 10 i := h
theorem tmC_11 (ad : Nat → Nat → Nat) (tc : Nat → ClassId) (i : Nat) : tmC ad tc 11 i = .inr (.inl (tc 0, 8)) := rfl
theorem okC_11 {i : Nat} (h : i < 13) : okC 11 i := h
theorem tmC_12 (ad : Nat → Nat → Nat) (tc : Nat → ClassId) (i : Nat) : tmC ad tc 12 i = .inl (5, [some (.ref (ad 1 (0))), some (.ref (ad 13 (i))), some (.ref (ad 14 (i))), some (.ref (ad 15 (i))), none, none]) := rfl
theorem okC_12 {i : Nat} (h : i < 2) : okC 12 i := h
theorem tmC_13 (ad : Nat → Nat → Nat) (tc : Nat → ClassId) (i : Nat) : tmC ad tc 13 i = .inr (.inr (tc 4, 12, fun k => ad 16 (12 * i + k))) := rfl
theorem okC_13 {i : Nat} (h : i < 2) : okC 13 i := h
theorem tmC_14 (ad : Nat → Nat → Nat) (tc : Nat → ClassId) (i : Nat) : tmC ad tc 14 i = .inr (.inr (tc 5, 12, fun k => ad 17 (12 * i + k))) := rfl
theorem okC_14 {i : Nat} (h : i < 2) : okC 14 i := h
theorem tmC_15 (ad : Nat → Nat → Nat) (tc : Nat → ClassId) (i : Nat) : tmC ad tc 15 i = .inr (.inl (tc 0, 12)) := rfl
theorem okC_15 {i : Nat} (h : i < 2) : okC 15 i := h
theorem tmC_16 (ad : Nat → Nat → Nat) (tc : Nat → ClassId) (i : Nat) : tmC ad tc 16 i = .inl (6, [none, none, none, none, none, none]) := rfl
theorem okC_16 {i : Nat} (h : i < 24) : okC 16 i := h
theorem tmC_17 (ad : Nat → Nat → Nat) (tc : Nat → ClassId) (i : Nat) : tmC ad tc 17 i = .inl (7, [none, none, some (.ref (ad 18 (i))), some (.ref (ad 19 (i))), none, none]) := rfl
theorem okC_17 {i : Nat} (h : i < 24) : okC 17 i := h
theorem tmC_18 (ad : Nat → Nat → Nat) (tc : Nat → ClassId) (i : Nat) : tmC ad tc 18 i = .inr (.inl (tc 0, 3)) := rfl
theorem okC_18 {i : Nat} (h : i < 24) : okC 18 i := h
theorem tmC_19 (ad : Nat → Nat → Nat) (tc : Nat → ClassId) (i : Nat) : tmC ad tc 19 i = .inr (.inl (tc 0, 3)) := rfl
theorem okC_19 {i : Nat} (h : i < 24) : okC 19 i := h
theorem tysC_0 (tc : Nat → ClassId) : (tysC tc)[0]? = some (tc 0, .int) := rfl
theorem tysC_1 (tc : Nat → ClassId) : (tysC tc)[1]? = some (tc 1, .object "ZipCanopy$Platform") := rfl
theorem tysC_2 (tc : Nat → ClassId) : (tysC tc)[2]? = some (tc 2, .object "ZipCanopy$Line") := rfl
theorem tysC_3 (tc : Nat → ClassId) : (tysC tc)[3]? = some (tc 3, .object "ZipCanopy$Rider") := rfl
theorem tysC_4 (tc : Nat → ClassId) : (tysC tc)[4]? = some (tc 4, .object "ZipCanopy$Trip") := rfl
theorem tysC_5 (tc : Nat → ClassId) : (tysC tc)[5]? = some (tc 5, .object "ZipCanopy$Trolleys") := rfl
/-! the world M: families of cells -/
def szM : Nat → Nat := fun f => match f with
  | 0 => 1
  | 1 => 1
  | 2 => 1
  | 3 => 1
  | 4 => 1
  | 5 => 1
  | 6 => 1
  | 7 => 1
  | 8 => 1
  | 9 => 1
  | 10 => 1
  | 11 => 2
  | 12 => 2
  | 13 => 2
  | 14 => 2
  | 15 => 2
  | 16 => 2
  | 17 => 2
  | 18 => 2
  | 19 => 2
  | 20 => 2
  | 21 => 2
  | 22 => 2
  | 23 => 2
  | 24 => 2
  | _ => 0
def okM (f i : Nat) : Prop := i < szM f
def tmM (ad : Nat → Nat → Nat) (tc : Nat → ClassId) : Nat → Nat → zT := fun f i => match f with
  | 0 => .inl (10, [none, none, some (.ref (ad 1 (0))), some (.ref (ad 2 (0))), some (.ref (ad 3 (0))), none, some (.ref (ad 4 (0))), some (.ref (ad 5 (0))), some (.ref (ad 6 (0))), some (.ref (ad 7 (0))), none, some (.ref (ad 8 (0))), some (.ref (ad 9 (0))), some (.ref (ad 10 (0))), some (.ref (ad 11 (0))), some (.ref (ad 11 (1)))])
  | 1 => .inr (.inl (tc 0, 8))
  | 2 => .inr (.inl (tc 0, 8))
  | 3 => .inr (.inl (tc 0, 8))
  | 4 => .inr (.inl (tc 0, 12))
  | 5 => .inr (.inl (tc 0, 12))
  | 6 => .inr (.inl (tc 0, 12))
  | 7 => .inr (.inl (tc 0, 12))
  | 8 => .inr (.inl (tc 0, 12))
  | 9 => .inr (.inl (tc 0, 12))
  | 10 => .inr (.inl (tc 0, 12))
  | 11 => .inl (9, [none, some (.ref (ad 12 (i))), some (.ref (ad 13 (i))), some (.ref (ad 14 (i))), some (.ref (ad 15 (i))), some (.ref (ad 16 (i))), some (.ref (ad 17 (i))), some (.ref (ad 18 (i))), some (.ref (ad 19 (i))), some (.ref (ad 20 (i))), some (.ref (ad 21 (i))), some (.ref (ad 22 (i))), some (.ref (ad 23 (i))), some (.ref (ad 24 (i))), some (.ref (ad 0 (0)))])
  | 12 => .inr (.inl (tc 0, 12))
  | 13 => .inr (.inl (tc 0, 12))
  | 14 => .inr (.inl (tc 0, 36))
  | 15 => .inr (.inl (tc 0, 36))
  | 16 => .inr (.inl (tc 0, 12))
  | 17 => .inr (.inl (tc 0, 12))
  | 18 => .inr (.inl (tc 0, 8))
  | 19 => .inr (.inl (tc 0, 96))
  | 20 => .inr (.inl (tc 0, 12))
  | 21 => .inr (.inl (tc 0, 12))
  | 22 => .inr (.inl (tc 0, 12))
  | 23 => .inr (.inl (tc 0, 12))
  | 24 => .inr (.inl (tc 0, 12))
  | _ => .inl (0, [])
def tysM (tc : Nat → ClassId) : List (ClassId × FieldType) := [(tc 0, .int)]
theorem tmM_0 (ad : Nat → Nat → Nat) (tc : Nat → ClassId) (i : Nat) : tmM ad tc 0 i = .inl (10, [none, none, some (.ref (ad 1 (0))), some (.ref (ad 2 (0))), some (.ref (ad 3 (0))), none, some (.ref (ad 4 (0))), some (.ref (ad 5 (0))), some (.ref (ad 6 (0))), some (.ref (ad 7 (0))), none, some (.ref (ad 8 (0))), some (.ref (ad 9 (0))), some (.ref (ad 10 (0))), some (.ref (ad 11 (0))), some (.ref (ad 11 (1)))]) := rfl
theorem okM_0 {i : Nat} (h : i < 1) : okM 0 i := h
theorem tmM_1 (ad : Nat → Nat → Nat) (tc : Nat → ClassId) (i : Nat) : tmM ad tc 1 i = .inr (.inl (tc 0, 8)) := rfl
theorem okM_1 {i : Nat} (h : i < 1) : okM 1 i := h
theorem tmM_2 (ad : Nat → Nat → Nat) (tc : Nat → ClassId) (i : Nat) : tmM ad tc 2 i = .inr (.inl (tc 0, 8)) := rfl
theorem okM_2 {i : Nat} (h : i < 1) : okM 2 i := h
theorem tmM_3 (ad : Nat → Nat → Nat) (tc : Nat → ClassId) (i : Nat) : tmM ad tc 3 i = .inr (.inl (tc 0, 8)) := rfl
theorem okM_3 {i : Nat} (h : i < 1) : okM 3 i := h
theorem tmM_4 (ad : Nat → Nat → Nat) (tc : Nat → ClassId) (i : Nat) : tmM ad tc 4 i = .inr (.inl (tc 0, 12)) := rfl
theorem okM_4 {i : Nat} (h : i < 1) : okM 4 i := h
theorem tmM_5 (ad : Nat → Nat → Nat) (tc : Nat → ClassId) (i : Nat) : tmM ad tc 5 i = .inr (.inl (tc 0, 12)) := rfl
theorem okM_5 {i : Nat} (h : i < 1) : okM 5 i := h
theorem tmM_6 (ad : Nat → Nat → Nat) (tc : Nat → ClassId) (i : Nat) : tmM ad tc 6 i = .inr (.inl (tc 0, 12)) := rfl
theorem okM_6 {i : Nat} (h : i < 1) : okM 6 i := h
theorem tmM_7 (ad : Nat → Nat → Nat) (tc : Nat → ClassId) (i : Nat) : tmM ad tc 7 i = .inr (.inl (tc 0, 12)) := rfl
theorem okM_7 {i : Nat} (h : i < 1) : okM 7 i := h
theorem tmM_8 (ad : Nat → Nat → Nat) (tc : Nat → ClassId) (i : Nat) : tmM ad tc 8 i = .inr (.inl (tc 0, 12)) := rfl
theorem okM_8 {i : Nat} (h : i < 1) : okM 8 i := h
theorem tmM_9 (ad : Nat → Nat → Nat) (tc : Nat → ClassId) (i : Nat) : tmM ad tc 9 i = .inr (.inl (tc 0, 12)) := rfl
theorem okM_9 {i : Nat} (h : i < 1) : okM 9 i := h
theorem tmM_10 (ad : Nat → Nat → Nat) (tc : Nat → ClassId) (i : Nat) : tmM ad tc 10 i = .inr (.inl (tc 0, 12)) := rfl
theorem okM_10 {i : Nat} (h : i < 1) : okM 10 i := h
theorem tmM_11 (ad : Nat → Nat → Nat) (tc : Nat → ClassId) (i : Nat) : tmM ad tc 11 i = .inl (9, [none, some (.ref (ad 12 (i))), some (.ref (ad 13 (i))), some (.ref (ad 14 (i))), some (.ref (ad 15 (i))), some (.ref (ad 16 (i))), some (.ref (ad 17 (i))), some (.ref (ad 18 (i))), some (.ref (ad 19 (i))), some (.ref (ad 20 (i))), some (.ref (ad 21 (i))), some (.ref (ad 22 (i))), some (.ref (ad 23 (i))), some (.ref (ad 24 (i))), some (.ref (ad 0 (0)))]) := rfl
theorem okM_11 {i : Nat} (h : i < 2) : okM 11 i := h
theorem tmM_12 (ad : Nat → Nat → Nat) (tc : Nat → ClassId) (i : Nat) : tmM ad tc 12 i = .inr (.inl (tc 0, 12)) := rfl
theorem okM_12 {i : Nat} (h : i < 2) : okM 12 i := h
theorem tmM_13 (ad : Nat → Nat → Nat) (tc : Nat → ClassId) (i : Nat) : tmM ad tc 13 i = .inr (.inl (tc 0, 12)) := rfl
theorem okM_13 {i : Nat} (h : i < 2) : okM 13 i := h
theorem tmM_14 (ad : Nat → Nat → Nat) (tc : Nat → ClassId) (i : Nat) : tmM ad tc 14 i = .inr (.inl (tc 0, 36)) := rfl
theorem okM_14 {i : Nat} (h : i < 2) : okM 14 i := h
theorem tmM_15 (ad : Nat → Nat → Nat) (tc : Nat → ClassId) (i : Nat) : tmM ad tc 15 i = .inr (.inl (tc 0, 36)) := rfl
theorem okM_15 {i : Nat} (h : i < 2) : okM 15 i := h
theorem tmM_16 (ad : Nat → Nat → Nat) (tc : Nat → ClassId) (i : Nat) : tmM ad tc 16 i = .inr (.inl (tc 0, 12)) := rfl
theorem okM_16 {i : Nat} (h : i < 2) : okM 16 i := h
theorem tmM_17 (ad : Nat → Nat → Nat) (tc : Nat → ClassId) (i : Nat) : tmM ad tc 17 i = .inr (.inl (tc 0, 12)) := rfl
theorem okM_17 {i : Nat} (h : i < 2) : okM 17 i := h
theorem tmM_18 (ad : Nat → Nat → Nat) (tc : Nat → ClassId) (i : Nat) : tmM ad tc 18 i = .inr (.inl (tc 0, 8)) := rfl
theorem okM_18 {i : Nat} (h : i < 2) : okM 18 i := h
theorem tmM_19 (ad : Nat → Nat → Nat) (tc : Nat → ClassId) (i : Nat) : tmM ad tc 19 i = .inr (.inl (tc 0, 96)) := rfl
theorem okM_19 {i : Nat} (h : i < 2) : okM 19 i := h
theorem tmM_20 (ad : Nat → Nat → Nat) (tc : Nat → ClassId) (i : Nat) : tmM ad tc 20 i = .inr (.inl (tc 0, 12)) := rfl
theorem okM_20 {i : Nat} (h : i < 2) : okM 20 i := h
theorem tmM_21 (ad : Nat → Nat → Nat) (tc : Nat → ClassId) (i : Nat) : tmM ad tc 21 i = .inr (.inl (tc 0, 12)) := rfl
theorem okM_21 {i : Nat} (h : i < 2) : okM 21 i := h
theorem tmM_22 (ad : Nat → Nat → Nat) (tc : Nat → ClassId) (i : Nat) : tmM ad tc 22 i = .inr (.inl (tc 0, 12)) := rfl
theorem okM_22 {i : Nat} (h : i < 2) : okM 22 i := h
theorem tmM_23 (ad : Nat → Nat → Nat) (tc : Nat → ClassId) (i : Nat) : tmM ad tc 23 i = .inr (.inl (tc 0, 12)) := rfl
theorem okM_23 {i : Nat} (h : i < 2) : okM 23 i := h
theorem tmM_24 (ad : Nat → Nat → Nat) (tc : Nat → ClassId) (i : Nat) : tmM ad tc 24 i = .inr (.inl (tc 0, 12)) := rfl
theorem okM_24 {i : Nat} (h : i < 2) : okM 24 i := h
theorem tysM_0 (tc : Nat → ClassId) : (tysM tc)[0]? = some (tc 0, .int) := rfl
