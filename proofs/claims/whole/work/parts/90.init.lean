/-! the law: the first store, and its relation -/
def hl_s0 : hh_S := fun r => if r < 128 then sg_X11 r else sg_X12 (r - 128)
theorem hl_can0 : hh_cs hl_s0 := by
  have A : ∀ j : Int, hh_can (hk_ru j) := fun j => by unfold hk_ru hh_can; split <;> (try split) <;> (try split) <;> omega
  have B : ∀ j : Int, hh_can (hk_rs j) := fun j => by unfold hk_rs hh_can; split <;> (try split) <;> (try split) <;> omega
  have C : ∀ j : Int, hh_can (hk_m1 j) := fun j => by unfold hk_m1 hh_can; split <;> (try split) <;> omega
  have Z : hh_can 0 := ⟨by decide, by decide⟩
  intro r j
  unfold hl_s0
  by_cases h : r < 128
  · rw [if_pos h]
    unfold sg_X11
    split
    · exact A j
    · split
      · exact A j
      · split
        · exact C j
        · exact Z
  · rw [if_neg h]
    unfold sg_X12
    split
    · exact B j
    · split
      · exact C j
      · exact Z
theorem hl_R0 : hr_R hl_s0 := by
  have z4 : hl_s0 129 4 = 0 := rfl
  have z5 : hl_s0 129 5 = 0 := rfl
  have z6 : hl_s0 129 6 = 0 := rfl
  have z7 : hl_s0 129 7 = 0 := rfl
  have z8 : hl_s0 129 8 = 0 := rfl
  have z9 : hl_s0 129 9 = 0 := rfl
  have z10 : hl_s0 129 10 = 0 := rfl
  have z11 : hl_s0 129 11 = 0 := rfl
  have y0 : hl_s0 146 0 = -1 := rfl
  have y1 : hl_s0 146 1 = -1 := rfl
  have x0 : hl_s0 124 0 = -1 := rfl
  have x1 : hl_s0 124 1 = -1 := rfl
  have w31 : hl_s0 128 31 = 0 := rfl
  have w6 : hl_s0 128 6 = 0 := rfl
  have w2 : hl_s0 0 2 = 0 := rfl
  refine ⟨⟨?_, ⟨?_, fun p p1 p2 => by omega⟩, ⟨?_, fun p p1 p2 => by omega⟩, ⟨?_, fun p p1 p2 => by omega⟩, ⟨?_, fun p p1 p2 => by omega⟩, ⟨?_, fun p p1 p2 => by omega⟩, ⟨?_, fun p p1 p2 => by omega⟩, ⟨?_, fun p p1 p2 => by omega⟩, ⟨by omega, fun c c1 c2 => by omega, fun t ht => by omega⟩⟩, ⟨rfl, Or.inl rfl, fun z => by omega⟩, ⟨⟨?_, fun j j1 j2 => by omega⟩, ⟨?_, fun j j1 j2 => by omega⟩⟩, ⟨?_, fun j j1 j2 => by omega⟩, ⟨?_, fun j j1 j2 => by omega⟩⟩
  · exact ⟨⟨rfl, by decide, by decide⟩, ⟨rfl, by decide, by decide⟩, ⟨rfl, by decide, by decide⟩, ⟨rfl, by decide, by decide⟩⟩
  · exact ⟨rfl, by omega, by omega⟩
  · exact ⟨rfl, by omega, by omega⟩
  · exact ⟨rfl, by omega, by omega⟩
  · exact ⟨rfl, by omega, by omega⟩
  · exact ⟨rfl, by omega, by omega⟩
  · exact ⟨rfl, by omega, by omega⟩
  · exact ⟨rfl, by omega, by omega⟩
  · exact ⟨rfl, by omega, by omega⟩
  · exact ⟨rfl, by omega, by omega⟩
  · exact ⟨rfl, by omega, by omega⟩
  · exact ⟨rfl, by omega, by omega⟩
