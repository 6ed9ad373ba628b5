/-! THE TWO NEW WORLDS -/
abbrev se0 : Nat → Int32 := upd (upd (upd (upd z0 0 9) 1 0) 2 4) 3 1
abbrev a0 : Nat → Int32 := upd (upd (upd z0 0 9) 2 4) 3 1
abbrev zf0 : Nat → Int32 := upd (upd (upd (upd z0 0 (-1)) 1 (-1)) 2 (-1)) 3 (-1)
abbrev wx0 : List sm_C := wx 0 0 z0 se0 0 z0 se0 0 0 z0 0 z0 z0 z0 (fun _ => -1) z0 (fun _ => z0)
abbrev wm0 : List sm_C := wm 0 0 0 0 0 a0 z0 z0 zf0 z0 z0 z0 z0 z0 z0
abbrev oX7 : List Value := [.null, .null, .int 0, .null, .null, .null, .null, .null]
abbrev oX8 : List Value := [.null, .null, .int 0, .null, .int 0, .null, .null, .null, .int 0, .int 0, .int 0, .null, .null, .null, .null]
theorem nb_x : NB 8 yX7_init 0 [hO 7 oX7] wx0 27 1185 := nb_X7 (d := 5)
theorem nb_m : NB 8 yX8_init 0 [hO 8 oX8] wm0 10 1822 := nb_X8 (d := 7)
theorem inv_0 : INV wx0 wm0 := by
  refine ⟨0, 0, z0, se0, 0, z0, se0, 0, 0, z0, 0, z0, z0, z0, (fun _ => -1), z0, (fun _ => z0), 0, 0, 0, a0, z0, zf0, z0, z0, z0, z0, z0, z0, z0, z0, z0, z0, z0, z0, rfl, rfl, ?_, Or.inl rfl, ?_, ?_⟩
  · exact ⟨by decide, fun i hi => absurd hi (Nat.not_lt_zero i), fun i => ⟨Or.inl rfl, (by decide : isW 0 0 99 = true), (by decide : isW 0 0 99 = true)⟩, by decide, ⟨by decide, by decide, by decide, by decide⟩, ⟨9, by decide, by decide⟩, by decide, by decide, by decide⟩
  · exact ⟨by decide, fun q hq => absurd hq (Nat.not_lt_zero q)⟩
  · intro j hj
    refine ⟨?_, fun h => absurd rfl h⟩
    refine Or.inl ⟨rfl, ?_⟩
    rcases (by omega : j = 0 ∨ j = 1 ∨ j = 2 ∨ j = 3) with h | h | h | h <;> subst h <;> decide
