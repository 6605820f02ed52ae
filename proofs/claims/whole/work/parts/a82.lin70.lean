/-! Kernels, cofactors, deletions for forms of 1 to 4 lines. Printed by gen_a82.py. -/
theorem dS_5 (g : Nat → Int) : dS g 1 = g 0 := by
  show 0 + g 0 = _
  omega
def sw (i m a : Nat) : Nat := if a = i then m else if a = m then i else a
def pmF (F : mT) (i m : Nat) : mT := fun a b => F (sw i m a) (sw i m b)
theorem kr_1 {F : mT} {x : Nat → Int} (sy : syN 1 F) (hr : ∀ b, b < 1 → dS (fun a => x a * F a b) 1 = 0) : F 0 0 * x 0 = 0 := by
  have r0 := hr 0 (by decide)
  rw [dS_5] at r0
  skip
  · have e : (F 0 0) * x 0 = (x 0 * F 0 0) * ((1)) := by grind
    rw [r0] at e
    grind
theorem sw_1 {F : mT} (sy : syN 1 F) : ∃ w : Nat → Int, (∀ a, 1 ≤ a → w a = 0) ∧ (∀ b, b < 0 → dS (fun a => w a * F a b) 1 = 0) ∧ dS (fun a => w a * F a 0) 1 = F 0 0 ∧ w 0 = 1 := by
  refine ⟨lf [(1)], fun a ha => ?_, fun b hb => ?_, ?_, ?_⟩
  · obtain ⟨d, rfl⟩ : ∃ d, a = d + 1 := ⟨a - 1, by omega⟩
    rfl
  · omega
  · rw [dS_5]
    show ((1)) * F 0 0 = F 0 0
    grind
  · show (1) = 1
    rfl
theorem kr_2 {F : mT} {x : Nat → Int} (sy : syN 2 F) (hr : ∀ b, b < 2 → dS (fun a => x a * F a b) 2 = 0) : sE22 F * x 0 = 0 ∧ sE22 F * x 1 = 0 := by
  have r0 := hr 0 (by decide)
  have r1 := hr 1 (by decide)
  rw [dS_2] at r0 r1
  have y10 : F 1 0 = F 0 1 := sy 1 0 (by decide) (by decide)
  unfold sE22
  rw [y10]
  rw [y10] at r0
  refine ⟨?_, ?_⟩
  · have e : (F 0 0 * (F 1 1) - F 0 1 * (F 0 1)) * x 0 = (x 0 * F 0 0 + x 1 * F 0 1) * ((F 1 1)) + (x 0 * F 0 1 + x 1 * F 1 1) * (-(F 0 1)) := by grind
    rw [r0, r1] at e
    grind
  · have e : (F 0 0 * (F 1 1) - F 0 1 * (F 0 1)) * x 1 = (x 0 * F 0 0 + x 1 * F 0 1) * (-(F 0 1)) + (x 0 * F 0 1 + x 1 * F 1 1) * ((F 0 0)) := by grind
    rw [r0, r1] at e
    grind
theorem sw_2 {F : mT} (sy : syN 2 F) : ∃ w : Nat → Int, (∀ a, 2 ≤ a → w a = 0) ∧ (∀ b, b < 1 → dS (fun a => w a * F a b) 2 = 0) ∧ dS (fun a => w a * F a 1) 2 = sE22 F ∧ w 1 = F 0 0 := by
  have y10 : F 1 0 = F 0 1 := sy 1 0 (by decide) (by decide)
  refine ⟨lf [-(F 0 1), (F 0 0)], fun a ha => ?_, fun b hb => ?_, ?_, ?_⟩
  · obtain ⟨d, rfl⟩ : ∃ d, a = d + 2 := ⟨a - 2, by omega⟩
    rfl
  · have : b = 0 := by omega
    subst this
    · rw [dS_2]
      show (-(F 0 1)) * F 0 0 + ((F 0 0)) * F 1 0 = 0
      rw [y10]
      grind
  · rw [dS_2]
    show (-(F 0 1)) * F 0 1 + ((F 0 0)) * F 1 1 = sE22 F
    unfold sE22
    rw [y10]
    grind
  · show (F 0 0) = F 0 0
    grind
theorem kr_3 {F : mT} {x : Nat → Int} (sy : syN 3 F) (hr : ∀ b, b < 3 → dS (fun a => x a * F a b) 3 = 0) : sE33 F * x 0 = 0 ∧ sE33 F * x 1 = 0 ∧ sE33 F * x 2 = 0 := by
  have r0 := hr 0 (by decide)
  have r1 := hr 1 (by decide)
  have r2 := hr 2 (by decide)
  rw [dS_3] at r0 r1 r2
  have y10 : F 1 0 = F 0 1 := sy 1 0 (by decide) (by decide)
  have y20 : F 2 0 = F 0 2 := sy 2 0 (by decide) (by decide)
  have y21 : F 2 1 = F 1 2 := sy 2 1 (by decide) (by decide)
  unfold sE33
  rw [y10, y20, y21]
  rw [y10, y20] at r0
  rw [y21] at r1
  refine ⟨?_, ?_, ?_⟩
  · have e : (F 0 0 * (F 1 1 * (F 2 2) - F 1 2 * (F 1 2)) - F 0 1 * (F 0 1 * (F 2 2) - F 1 2 * (F 0 2)) + F 0 2 * (F 0 1 * (F 1 2) - F 1 1 * (F 0 2))) * x 0 = (x 0 * F 0 0 + x 1 * F 0 1 + x 2 * F 0 2) * ((F 1 1 * (F 2 2) - F 1 2 * (F 1 2))) + (x 0 * F 0 1 + x 1 * F 1 1 + x 2 * F 1 2) * (-(F 0 1 * (F 2 2) - F 1 2 * (F 0 2))) + (x 0 * F 0 2 + x 1 * F 1 2 + x 2 * F 2 2) * ((F 0 1 * (F 1 2) - F 1 1 * (F 0 2))) := by grind
    rw [r0, r1, r2] at e
    grind
  · have e : (F 0 0 * (F 1 1 * (F 2 2) - F 1 2 * (F 1 2)) - F 0 1 * (F 0 1 * (F 2 2) - F 1 2 * (F 0 2)) + F 0 2 * (F 0 1 * (F 1 2) - F 1 1 * (F 0 2))) * x 1 = (x 0 * F 0 0 + x 1 * F 0 1 + x 2 * F 0 2) * (-(F 0 1 * (F 2 2) - F 0 2 * (F 1 2))) + (x 0 * F 0 1 + x 1 * F 1 1 + x 2 * F 1 2) * ((F 0 0 * (F 2 2) - F 0 2 * (F 0 2))) + (x 0 * F 0 2 + x 1 * F 1 2 + x 2 * F 2 2) * (-(F 0 0 * (F 1 2) - F 0 1 * (F 0 2))) := by grind
    rw [r0, r1, r2] at e
    grind
  · have e : (F 0 0 * (F 1 1 * (F 2 2) - F 1 2 * (F 1 2)) - F 0 1 * (F 0 1 * (F 2 2) - F 1 2 * (F 0 2)) + F 0 2 * (F 0 1 * (F 1 2) - F 1 1 * (F 0 2))) * x 2 = (x 0 * F 0 0 + x 1 * F 0 1 + x 2 * F 0 2) * ((F 0 1 * (F 1 2) - F 0 2 * (F 1 1))) + (x 0 * F 0 1 + x 1 * F 1 1 + x 2 * F 1 2) * (-(F 0 0 * (F 1 2) - F 0 2 * (F 0 1))) + (x 0 * F 0 2 + x 1 * F 1 2 + x 2 * F 2 2) * ((F 0 0 * (F 1 1) - F 0 1 * (F 0 1))) := by grind
    rw [r0, r1, r2] at e
    grind
theorem sw_3 {F : mT} (sy : syN 3 F) : ∃ w : Nat → Int, (∀ a, 3 ≤ a → w a = 0) ∧ (∀ b, b < 2 → dS (fun a => w a * F a b) 3 = 0) ∧ dS (fun a => w a * F a 2) 3 = sE33 F ∧ w 2 = sE22 F := by
  have y10 : F 1 0 = F 0 1 := sy 1 0 (by decide) (by decide)
  have y20 : F 2 0 = F 0 2 := sy 2 0 (by decide) (by decide)
  have y21 : F 2 1 = F 1 2 := sy 2 1 (by decide) (by decide)
  refine ⟨lf [(F 0 1 * (F 1 2) - F 1 1 * (F 0 2)), -(F 0 0 * (F 1 2) - F 0 1 * (F 0 2)), (F 0 0 * (F 1 1) - F 0 1 * (F 0 1))], fun a ha => ?_, fun b hb => ?_, ?_, ?_⟩
  · obtain ⟨d, rfl⟩ : ∃ d, a = d + 3 := ⟨a - 3, by omega⟩
    rfl
  · have : b = 0 ∨ b = 1 := by omega
    rcases this with rfl | rfl
    · rw [dS_3]
      show ((F 0 1 * (F 1 2) - F 1 1 * (F 0 2))) * F 0 0 + (-(F 0 0 * (F 1 2) - F 0 1 * (F 0 2))) * F 1 0 + ((F 0 0 * (F 1 1) - F 0 1 * (F 0 1))) * F 2 0 = 0
      rw [y10, y20]
      grind
    · rw [dS_3]
      show ((F 0 1 * (F 1 2) - F 1 1 * (F 0 2))) * F 0 1 + (-(F 0 0 * (F 1 2) - F 0 1 * (F 0 2))) * F 1 1 + ((F 0 0 * (F 1 1) - F 0 1 * (F 0 1))) * F 2 1 = 0
      rw [y21]
      grind
  · rw [dS_3]
    show ((F 0 1 * (F 1 2) - F 1 1 * (F 0 2))) * F 0 2 + (-(F 0 0 * (F 1 2) - F 0 1 * (F 0 2))) * F 1 2 + ((F 0 0 * (F 1 1) - F 0 1 * (F 0 1))) * F 2 2 = sE33 F
    unfold sE33
    rw [y10, y20, y21]
    grind
  · show (F 0 0 * (F 1 1) - F 0 1 * (F 0 1)) = sE22 F
    unfold sE22
    rw [y10] <;> grind
theorem kr_4 {F : mT} {x : Nat → Int} (sy : syN 4 F) (hr : ∀ b, b < 4 → dS (fun a => x a * F a b) 4 = 0) : sE44 F * x 0 = 0 ∧ sE44 F * x 1 = 0 ∧ sE44 F * x 2 = 0 ∧ sE44 F * x 3 = 0 := by
  have r0 := hr 0 (by decide)
  have r1 := hr 1 (by decide)
  have r2 := hr 2 (by decide)
  have r3 := hr 3 (by decide)
  rw [dS_4] at r0 r1 r2 r3
  have y10 : F 1 0 = F 0 1 := sy 1 0 (by decide) (by decide)
  have y20 : F 2 0 = F 0 2 := sy 2 0 (by decide) (by decide)
  have y21 : F 2 1 = F 1 2 := sy 2 1 (by decide) (by decide)
  have y30 : F 3 0 = F 0 3 := sy 3 0 (by decide) (by decide)
  have y31 : F 3 1 = F 1 3 := sy 3 1 (by decide) (by decide)
  have y32 : F 3 2 = F 2 3 := sy 3 2 (by decide) (by decide)
  unfold sE44
  rw [y10, y20, y21, y30, y31, y32]
  rw [y10, y20, y30] at r0
  rw [y21, y31] at r1
  rw [y32] at r2
  refine ⟨?_, ?_, ?_, ?_⟩
  · have e : (F 0 0 * (F 1 1 * (F 2 2 * (F 3 3) - F 2 3 * (F 2 3)) - F 1 2 * (F 1 2 * (F 3 3) - F 2 3 * (F 1 3)) + F 1 3 * (F 1 2 * (F 2 3) - F 2 2 * (F 1 3))) - F 0 1 * (F 0 1 * (F 2 2 * (F 3 3) - F 2 3 * (F 2 3)) - F 1 2 * (F 0 2 * (F 3 3) - F 2 3 * (F 0 3)) + F 1 3 * (F 0 2 * (F 2 3) - F 2 2 * (F 0 3))) + F 0 2 * (F 0 1 * (F 1 2 * (F 3 3) - F 2 3 * (F 1 3)) - F 1 1 * (F 0 2 * (F 3 3) - F 2 3 * (F 0 3)) + F 1 3 * (F 0 2 * (F 1 3) - F 1 2 * (F 0 3))) - F 0 3 * (F 0 1 * (F 1 2 * (F 2 3) - F 2 2 * (F 1 3)) - F 1 1 * (F 0 2 * (F 2 3) - F 2 2 * (F 0 3)) + F 1 2 * (F 0 2 * (F 1 3) - F 1 2 * (F 0 3)))) * x 0 = (x 0 * F 0 0 + x 1 * F 0 1 + x 2 * F 0 2 + x 3 * F 0 3) * ((F 1 1 * (F 2 2 * (F 3 3) - F 2 3 * (F 2 3)) - F 1 2 * (F 1 2 * (F 3 3) - F 2 3 * (F 1 3)) + F 1 3 * (F 1 2 * (F 2 3) - F 2 2 * (F 1 3)))) + (x 0 * F 0 1 + x 1 * F 1 1 + x 2 * F 1 2 + x 3 * F 1 3) * (-(F 0 1 * (F 2 2 * (F 3 3) - F 2 3 * (F 2 3)) - F 1 2 * (F 0 2 * (F 3 3) - F 2 3 * (F 0 3)) + F 1 3 * (F 0 2 * (F 2 3) - F 2 2 * (F 0 3)))) + (x 0 * F 0 2 + x 1 * F 1 2 + x 2 * F 2 2 + x 3 * F 2 3) * ((F 0 1 * (F 1 2 * (F 3 3) - F 2 3 * (F 1 3)) - F 1 1 * (F 0 2 * (F 3 3) - F 2 3 * (F 0 3)) + F 1 3 * (F 0 2 * (F 1 3) - F 1 2 * (F 0 3)))) + (x 0 * F 0 3 + x 1 * F 1 3 + x 2 * F 2 3 + x 3 * F 3 3) * (-(F 0 1 * (F 1 2 * (F 2 3) - F 2 2 * (F 1 3)) - F 1 1 * (F 0 2 * (F 2 3) - F 2 2 * (F 0 3)) + F 1 2 * (F 0 2 * (F 1 3) - F 1 2 * (F 0 3)))) := by grind
    rw [r0, r1, r2, r3] at e
    grind
  · have e : (F 0 0 * (F 1 1 * (F 2 2 * (F 3 3) - F 2 3 * (F 2 3)) - F 1 2 * (F 1 2 * (F 3 3) - F 2 3 * (F 1 3)) + F 1 3 * (F 1 2 * (F 2 3) - F 2 2 * (F 1 3))) - F 0 1 * (F 0 1 * (F 2 2 * (F 3 3) - F 2 3 * (F 2 3)) - F 1 2 * (F 0 2 * (F 3 3) - F 2 3 * (F 0 3)) + F 1 3 * (F 0 2 * (F 2 3) - F 2 2 * (F 0 3))) + F 0 2 * (F 0 1 * (F 1 2 * (F 3 3) - F 2 3 * (F 1 3)) - F 1 1 * (F 0 2 * (F 3 3) - F 2 3 * (F 0 3)) + F 1 3 * (F 0 2 * (F 1 3) - F 1 2 * (F 0 3))) - F 0 3 * (F 0 1 * (F 1 2 * (F 2 3) - F 2 2 * (F 1 3)) - F 1 1 * (F 0 2 * (F 2 3) - F 2 2 * (F 0 3)) + F 1 2 * (F 0 2 * (F 1 3) - F 1 2 * (F 0 3)))) * x 1 = (x 0 * F 0 0 + x 1 * F 0 1 + x 2 * F 0 2 + x 3 * F 0 3) * (-(F 0 1 * (F 2 2 * (F 3 3) - F 2 3 * (F 2 3)) - F 0 2 * (F 1 2 * (F 3 3) - F 2 3 * (F 1 3)) + F 0 3 * (F 1 2 * (F 2 3) - F 2 2 * (F 1 3)))) + (x 0 * F 0 1 + x 1 * F 1 1 + x 2 * F 1 2 + x 3 * F 1 3) * ((F 0 0 * (F 2 2 * (F 3 3) - F 2 3 * (F 2 3)) - F 0 2 * (F 0 2 * (F 3 3) - F 2 3 * (F 0 3)) + F 0 3 * (F 0 2 * (F 2 3) - F 2 2 * (F 0 3)))) + (x 0 * F 0 2 + x 1 * F 1 2 + x 2 * F 2 2 + x 3 * F 2 3) * (-(F 0 0 * (F 1 2 * (F 3 3) - F 2 3 * (F 1 3)) - F 0 1 * (F 0 2 * (F 3 3) - F 2 3 * (F 0 3)) + F 0 3 * (F 0 2 * (F 1 3) - F 1 2 * (F 0 3)))) + (x 0 * F 0 3 + x 1 * F 1 3 + x 2 * F 2 3 + x 3 * F 3 3) * ((F 0 0 * (F 1 2 * (F 2 3) - F 2 2 * (F 1 3)) - F 0 1 * (F 0 2 * (F 2 3) - F 2 2 * (F 0 3)) + F 0 2 * (F 0 2 * (F 1 3) - F 1 2 * (F 0 3)))) := by grind
    rw [r0, r1, r2, r3] at e
    grind
  · have e : (F 0 0 * (F 1 1 * (F 2 2 * (F 3 3) - F 2 3 * (F 2 3)) - F 1 2 * (F 1 2 * (F 3 3) - F 2 3 * (F 1 3)) + F 1 3 * (F 1 2 * (F 2 3) - F 2 2 * (F 1 3))) - F 0 1 * (F 0 1 * (F 2 2 * (F 3 3) - F 2 3 * (F 2 3)) - F 1 2 * (F 0 2 * (F 3 3) - F 2 3 * (F 0 3)) + F 1 3 * (F 0 2 * (F 2 3) - F 2 2 * (F 0 3))) + F 0 2 * (F 0 1 * (F 1 2 * (F 3 3) - F 2 3 * (F 1 3)) - F 1 1 * (F 0 2 * (F 3 3) - F 2 3 * (F 0 3)) + F 1 3 * (F 0 2 * (F 1 3) - F 1 2 * (F 0 3))) - F 0 3 * (F 0 1 * (F 1 2 * (F 2 3) - F 2 2 * (F 1 3)) - F 1 1 * (F 0 2 * (F 2 3) - F 2 2 * (F 0 3)) + F 1 2 * (F 0 2 * (F 1 3) - F 1 2 * (F 0 3)))) * x 2 = (x 0 * F 0 0 + x 1 * F 0 1 + x 2 * F 0 2 + x 3 * F 0 3) * ((F 0 1 * (F 1 2 * (F 3 3) - F 1 3 * (F 2 3)) - F 0 2 * (F 1 1 * (F 3 3) - F 1 3 * (F 1 3)) + F 0 3 * (F 1 1 * (F 2 3) - F 1 2 * (F 1 3)))) + (x 0 * F 0 1 + x 1 * F 1 1 + x 2 * F 1 2 + x 3 * F 1 3) * (-(F 0 0 * (F 1 2 * (F 3 3) - F 1 3 * (F 2 3)) - F 0 2 * (F 0 1 * (F 3 3) - F 1 3 * (F 0 3)) + F 0 3 * (F 0 1 * (F 2 3) - F 1 2 * (F 0 3)))) + (x 0 * F 0 2 + x 1 * F 1 2 + x 2 * F 2 2 + x 3 * F 2 3) * ((F 0 0 * (F 1 1 * (F 3 3) - F 1 3 * (F 1 3)) - F 0 1 * (F 0 1 * (F 3 3) - F 1 3 * (F 0 3)) + F 0 3 * (F 0 1 * (F 1 3) - F 1 1 * (F 0 3)))) + (x 0 * F 0 3 + x 1 * F 1 3 + x 2 * F 2 3 + x 3 * F 3 3) * (-(F 0 0 * (F 1 1 * (F 2 3) - F 1 2 * (F 1 3)) - F 0 1 * (F 0 1 * (F 2 3) - F 1 2 * (F 0 3)) + F 0 2 * (F 0 1 * (F 1 3) - F 1 1 * (F 0 3)))) := by grind
    rw [r0, r1, r2, r3] at e
    grind
  · have e : (F 0 0 * (F 1 1 * (F 2 2 * (F 3 3) - F 2 3 * (F 2 3)) - F 1 2 * (F 1 2 * (F 3 3) - F 2 3 * (F 1 3)) + F 1 3 * (F 1 2 * (F 2 3) - F 2 2 * (F 1 3))) - F 0 1 * (F 0 1 * (F 2 2 * (F 3 3) - F 2 3 * (F 2 3)) - F 1 2 * (F 0 2 * (F 3 3) - F 2 3 * (F 0 3)) + F 1 3 * (F 0 2 * (F 2 3) - F 2 2 * (F 0 3))) + F 0 2 * (F 0 1 * (F 1 2 * (F 3 3) - F 2 3 * (F 1 3)) - F 1 1 * (F 0 2 * (F 3 3) - F 2 3 * (F 0 3)) + F 1 3 * (F 0 2 * (F 1 3) - F 1 2 * (F 0 3))) - F 0 3 * (F 0 1 * (F 1 2 * (F 2 3) - F 2 2 * (F 1 3)) - F 1 1 * (F 0 2 * (F 2 3) - F 2 2 * (F 0 3)) + F 1 2 * (F 0 2 * (F 1 3) - F 1 2 * (F 0 3)))) * x 3 = (x 0 * F 0 0 + x 1 * F 0 1 + x 2 * F 0 2 + x 3 * F 0 3) * (-(F 0 1 * (F 1 2 * (F 2 3) - F 1 3 * (F 2 2)) - F 0 2 * (F 1 1 * (F 2 3) - F 1 3 * (F 1 2)) + F 0 3 * (F 1 1 * (F 2 2) - F 1 2 * (F 1 2)))) + (x 0 * F 0 1 + x 1 * F 1 1 + x 2 * F 1 2 + x 3 * F 1 3) * ((F 0 0 * (F 1 2 * (F 2 3) - F 1 3 * (F 2 2)) - F 0 2 * (F 0 1 * (F 2 3) - F 1 3 * (F 0 2)) + F 0 3 * (F 0 1 * (F 2 2) - F 1 2 * (F 0 2)))) + (x 0 * F 0 2 + x 1 * F 1 2 + x 2 * F 2 2 + x 3 * F 2 3) * (-(F 0 0 * (F 1 1 * (F 2 3) - F 1 3 * (F 1 2)) - F 0 1 * (F 0 1 * (F 2 3) - F 1 3 * (F 0 2)) + F 0 3 * (F 0 1 * (F 1 2) - F 1 1 * (F 0 2)))) + (x 0 * F 0 3 + x 1 * F 1 3 + x 2 * F 2 3 + x 3 * F 3 3) * ((F 0 0 * (F 1 1 * (F 2 2) - F 1 2 * (F 1 2)) - F 0 1 * (F 0 1 * (F 2 2) - F 1 2 * (F 0 2)) + F 0 2 * (F 0 1 * (F 1 2) - F 1 1 * (F 0 2)))) := by grind
    rw [r0, r1, r2, r3] at e
    grind
theorem sw_4 {F : mT} (sy : syN 4 F) : ∃ w : Nat → Int, (∀ a, 4 ≤ a → w a = 0) ∧ (∀ b, b < 3 → dS (fun a => w a * F a b) 4 = 0) ∧ dS (fun a => w a * F a 3) 4 = sE44 F ∧ w 3 = sE33 F := by
  have y10 : F 1 0 = F 0 1 := sy 1 0 (by decide) (by decide)
  have y20 : F 2 0 = F 0 2 := sy 2 0 (by decide) (by decide)
  have y21 : F 2 1 = F 1 2 := sy 2 1 (by decide) (by decide)
  have y30 : F 3 0 = F 0 3 := sy 3 0 (by decide) (by decide)
  have y31 : F 3 1 = F 1 3 := sy 3 1 (by decide) (by decide)
  have y32 : F 3 2 = F 2 3 := sy 3 2 (by decide) (by decide)
  refine ⟨lf [-(F 0 1 * (F 1 2 * (F 2 3) - F 2 2 * (F 1 3)) - F 1 1 * (F 0 2 * (F 2 3) - F 2 2 * (F 0 3)) + F 1 2 * (F 0 2 * (F 1 3) - F 1 2 * (F 0 3))), (F 0 0 * (F 1 2 * (F 2 3) - F 2 2 * (F 1 3)) - F 0 1 * (F 0 2 * (F 2 3) - F 2 2 * (F 0 3)) + F 0 2 * (F 0 2 * (F 1 3) - F 1 2 * (F 0 3))), -(F 0 0 * (F 1 1 * (F 2 3) - F 1 2 * (F 1 3)) - F 0 1 * (F 0 1 * (F 2 3) - F 1 2 * (F 0 3)) + F 0 2 * (F 0 1 * (F 1 3) - F 1 1 * (F 0 3))), (F 0 0 * (F 1 1 * (F 2 2) - F 1 2 * (F 1 2)) - F 0 1 * (F 0 1 * (F 2 2) - F 1 2 * (F 0 2)) + F 0 2 * (F 0 1 * (F 1 2) - F 1 1 * (F 0 2)))], fun a ha => ?_, fun b hb => ?_, ?_, ?_⟩
  · obtain ⟨d, rfl⟩ : ∃ d, a = d + 4 := ⟨a - 4, by omega⟩
    rfl
  · have : b = 0 ∨ b = 1 ∨ b = 2 := by omega
    rcases this with rfl | rfl | rfl
    · rw [dS_4]
      show (-(F 0 1 * (F 1 2 * (F 2 3) - F 2 2 * (F 1 3)) - F 1 1 * (F 0 2 * (F 2 3) - F 2 2 * (F 0 3)) + F 1 2 * (F 0 2 * (F 1 3) - F 1 2 * (F 0 3)))) * F 0 0 + ((F 0 0 * (F 1 2 * (F 2 3) - F 2 2 * (F 1 3)) - F 0 1 * (F 0 2 * (F 2 3) - F 2 2 * (F 0 3)) + F 0 2 * (F 0 2 * (F 1 3) - F 1 2 * (F 0 3)))) * F 1 0 + (-(F 0 0 * (F 1 1 * (F 2 3) - F 1 2 * (F 1 3)) - F 0 1 * (F 0 1 * (F 2 3) - F 1 2 * (F 0 3)) + F 0 2 * (F 0 1 * (F 1 3) - F 1 1 * (F 0 3)))) * F 2 0 + ((F 0 0 * (F 1 1 * (F 2 2) - F 1 2 * (F 1 2)) - F 0 1 * (F 0 1 * (F 2 2) - F 1 2 * (F 0 2)) + F 0 2 * (F 0 1 * (F 1 2) - F 1 1 * (F 0 2)))) * F 3 0 = 0
      rw [y10, y20, y30]
      grind
    · rw [dS_4]
      show (-(F 0 1 * (F 1 2 * (F 2 3) - F 2 2 * (F 1 3)) - F 1 1 * (F 0 2 * (F 2 3) - F 2 2 * (F 0 3)) + F 1 2 * (F 0 2 * (F 1 3) - F 1 2 * (F 0 3)))) * F 0 1 + ((F 0 0 * (F 1 2 * (F 2 3) - F 2 2 * (F 1 3)) - F 0 1 * (F 0 2 * (F 2 3) - F 2 2 * (F 0 3)) + F 0 2 * (F 0 2 * (F 1 3) - F 1 2 * (F 0 3)))) * F 1 1 + (-(F 0 0 * (F 1 1 * (F 2 3) - F 1 2 * (F 1 3)) - F 0 1 * (F 0 1 * (F 2 3) - F 1 2 * (F 0 3)) + F 0 2 * (F 0 1 * (F 1 3) - F 1 1 * (F 0 3)))) * F 2 1 + ((F 0 0 * (F 1 1 * (F 2 2) - F 1 2 * (F 1 2)) - F 0 1 * (F 0 1 * (F 2 2) - F 1 2 * (F 0 2)) + F 0 2 * (F 0 1 * (F 1 2) - F 1 1 * (F 0 2)))) * F 3 1 = 0
      rw [y21, y31]
      grind
    · rw [dS_4]
      show (-(F 0 1 * (F 1 2 * (F 2 3) - F 2 2 * (F 1 3)) - F 1 1 * (F 0 2 * (F 2 3) - F 2 2 * (F 0 3)) + F 1 2 * (F 0 2 * (F 1 3) - F 1 2 * (F 0 3)))) * F 0 2 + ((F 0 0 * (F 1 2 * (F 2 3) - F 2 2 * (F 1 3)) - F 0 1 * (F 0 2 * (F 2 3) - F 2 2 * (F 0 3)) + F 0 2 * (F 0 2 * (F 1 3) - F 1 2 * (F 0 3)))) * F 1 2 + (-(F 0 0 * (F 1 1 * (F 2 3) - F 1 2 * (F 1 3)) - F 0 1 * (F 0 1 * (F 2 3) - F 1 2 * (F 0 3)) + F 0 2 * (F 0 1 * (F 1 3) - F 1 1 * (F 0 3)))) * F 2 2 + ((F 0 0 * (F 1 1 * (F 2 2) - F 1 2 * (F 1 2)) - F 0 1 * (F 0 1 * (F 2 2) - F 1 2 * (F 0 2)) + F 0 2 * (F 0 1 * (F 1 2) - F 1 1 * (F 0 2)))) * F 3 2 = 0
      rw [y32]
      grind
  · rw [dS_4]
    show (-(F 0 1 * (F 1 2 * (F 2 3) - F 2 2 * (F 1 3)) - F 1 1 * (F 0 2 * (F 2 3) - F 2 2 * (F 0 3)) + F 1 2 * (F 0 2 * (F 1 3) - F 1 2 * (F 0 3)))) * F 0 3 + ((F 0 0 * (F 1 2 * (F 2 3) - F 2 2 * (F 1 3)) - F 0 1 * (F 0 2 * (F 2 3) - F 2 2 * (F 0 3)) + F 0 2 * (F 0 2 * (F 1 3) - F 1 2 * (F 0 3)))) * F 1 3 + (-(F 0 0 * (F 1 1 * (F 2 3) - F 1 2 * (F 1 3)) - F 0 1 * (F 0 1 * (F 2 3) - F 1 2 * (F 0 3)) + F 0 2 * (F 0 1 * (F 1 3) - F 1 1 * (F 0 3)))) * F 2 3 + ((F 0 0 * (F 1 1 * (F 2 2) - F 1 2 * (F 1 2)) - F 0 1 * (F 0 1 * (F 2 2) - F 1 2 * (F 0 2)) + F 0 2 * (F 0 1 * (F 1 2) - F 1 1 * (F 0 2)))) * F 3 3 = sE44 F
    unfold sE44
    rw [y10, y20, y21, y30, y31, y32]
    grind
  · show (F 0 0 * (F 1 1 * (F 2 2) - F 1 2 * (F 1 2)) - F 0 1 * (F 0 1 * (F 2 2) - F 1 2 * (F 0 2)) + F 0 2 * (F 0 1 * (F 1 2) - F 1 1 * (F 0 2))) = sE33 F
    unfold sE33
    rw [y10, y20, y21] <;> grind
theorem n0_2 {F : mT} {x : Nat → Int} (sy : syN 2 F) (hr : ∀ b, b < 1 → dS (fun a => x a * F a b) 1 = 0) : sE22 F * dS (fun a => x a * x a) 1 = F 1 1 * F 0 0 * dS (fun a => x a * x a) 1 - 1 * (dS (fun a => x a * F a 1) 1 * dS (fun a => x a * F a 1) 1) := by
  have y10 := sy 1 0 (by decide) (by decide)
  unfold sE22
  rw [dS_5, dS_5, y10]
  grind
theorem n0_3 {F : mT} {x : Nat → Int} (sy : syN 3 F) (hr : ∀ b, b < 2 → dS (fun a => x a * F a b) 2 = 0) : sE33 F * dS (fun a => x a * x a) 2 = F 2 2 * sE22 F * dS (fun a => x a * x a) 2 - sE21 F * (dS (fun a => x a * F a 2) 2 * dS (fun a => x a * F a 2) 2) := by
  have y10 := sy 1 0 (by decide) (by decide)
  have y20 := sy 2 0 (by decide) (by decide)
  have y21 := sy 2 1 (by decide) (by decide)
  have r0 := hr 0 (by decide)
  have r1 := hr 1 (by decide)
  rw [dS_2] at r0 r1
  rw [y10] at r0
  unfold sE33 sE22 sE21
  rw [dS_2, dS_2, y10, y20, y21]
  generalize F 0 0 = a1 at *
  generalize F 0 1 = a2 at *
  generalize F 1 1 = a4 at *
  generalize F 0 2 = b1 at *
  generalize F 1 2 = b2 at *
  generalize F 2 2 = c at *
  generalize x 0 = x1 at *
  generalize x 1 = x2 at *
  have c1 : a4 * x2 = -(a2 * x1) := by grind
  have c2 : a1 * x1 = -(a2 * x2) := by grind
  have k : (a4 * b1 * b1 - 2 * a2 * b1 * b2 + a1 * b2 * b2) * (x1 * x1 + x2 * x2) - (a1 + a4) * ((x1 * b1 + x2 * b2) * (x1 * b1 + x2 * b2)) = (x1 * a1 + x2 * a2) * (x1 * b2 * b2 - x1 * b1 * b1 - 2 * x2 * b1 * b2) + (x1 * a2 + x2 * a4) * (x2 * b1 * b1 - x2 * b2 * b2 - 2 * x1 * b1 * b2) := by grind
  rw [r0, show x1 * a2 + x2 * a4 = 0 by grind] at k
  grind
theorem n0_a {a1 a2 a3 a4 a5 a6 b1 b2 b3 x1 x2 x3 : Int} (r1 : x1 * a1 + x2 * a2 + x3 * a3 = 0) (r2 : x1 * a2 + x2 * a4 + x3 * a5 = 0) (r3 : x1 * a3 + x2 * a5 + x3 * a6 = 0) : (b1 * (((a4 * a6 - a5 * a5)) * b1 + (-(a2 * a6 - a5 * a3)) * b2 + ((a2 * a5 - a4 * a3)) * b3) + b2 * ((-(a2 * a6 - a5 * a3)) * b1 + ((a1 * a6 - a3 * a3)) * b2 + (-(a1 * a5 - a2 * a3)) * b3) + b3 * (((a2 * a5 - a4 * a3)) * b1 + (-(a1 * a5 - a2 * a3)) * b2 + ((a1 * a4 - a2 * a2)) * b3)) * (x1 * x1 + x2 * x2 + x3 * x3) = (a1 * a4 - a2 * a2 + (a1 * a6 - a3 * a3) + (a4 * a6 - a5 * a5)) * ((x1 * b1 + x2 * b2 + x3 * b3) * (x1 * b1 + x2 * b2 + x3 * b3)) := by
  obtain ⟨m00, h00⟩ : ∃ m, m = (a4 * a6 - a5 * a5) := ⟨_, rfl⟩
  obtain ⟨m01, h01⟩ : ∃ m, m = -(a2 * a6 - a5 * a3) := ⟨_, rfl⟩
  obtain ⟨m02, h02⟩ : ∃ m, m = (a2 * a5 - a4 * a3) := ⟨_, rfl⟩
  obtain ⟨m11, h11⟩ : ∃ m, m = (a1 * a6 - a3 * a3) := ⟨_, rfl⟩
  obtain ⟨m12, h12⟩ : ∃ m, m = -(a1 * a5 - a2 * a3) := ⟨_, rfl⟩
  obtain ⟨m22, h22⟩ : ∃ m, m = (a1 * a4 - a2 * a2) := ⟨_, rfl⟩
  have c010 : m00 * x2 = m01 * x1 := by
    have e : ((a4 * a6 - a5 * a5)) * x2 - (-(a2 * a6 - a5 * a3)) * x1 = (a6 * (x1 * a2 + x2 * a4 + x3 * a5) - a5 * (x1 * a3 + x2 * a5 + x3 * a6)) := by grind
    rw [r2, r3, ← h00, ← h01] at e
    omega
  have c011 : m01 * x2 = m11 * x1 := by
    have e : (-(a2 * a6 - a5 * a3)) * x2 - ((a1 * a6 - a3 * a3)) * x1 = -(a6 * (x1 * a1 + x2 * a2 + x3 * a3) - a3 * (x1 * a3 + x2 * a5 + x3 * a6)) := by grind
    rw [r1, r3, ← h01, ← h11] at e
    omega
  have c012 : m02 * x2 = m12 * x1 := by
    have e : ((a2 * a5 - a4 * a3)) * x2 - (-(a1 * a5 - a2 * a3)) * x1 = (a5 * (x1 * a1 + x2 * a2 + x3 * a3) - a3 * (x1 * a2 + x2 * a4 + x3 * a5)) := by grind
    rw [r1, r2, ← h02, ← h12] at e
    omega
  have c020 : m00 * x3 = m02 * x1 := by
    have e : ((a4 * a6 - a5 * a5)) * x3 - ((a2 * a5 - a4 * a3)) * x1 = -(a5 * (x1 * a2 + x2 * a4 + x3 * a5) - a4 * (x1 * a3 + x2 * a5 + x3 * a6)) := by grind
    rw [r2, r3, ← h00, ← h02] at e
    omega
  have c021 : m01 * x3 = m12 * x1 := by
    have e : (-(a2 * a6 - a5 * a3)) * x3 - (-(a1 * a5 - a2 * a3)) * x1 = (a5 * (x1 * a1 + x2 * a2 + x3 * a3) - a2 * (x1 * a3 + x2 * a5 + x3 * a6)) := by grind
    rw [r1, r3, ← h01, ← h12] at e
    omega
  have c022 : m02 * x3 = m22 * x1 := by
    have e : ((a2 * a5 - a4 * a3)) * x3 - ((a1 * a4 - a2 * a2)) * x1 = -(a4 * (x1 * a1 + x2 * a2 + x3 * a3) - a2 * (x1 * a2 + x2 * a4 + x3 * a5)) := by grind
    rw [r1, r2, ← h02, ← h22] at e
    omega
  have c120 : m01 * x3 = m02 * x2 := by
    have e : (-(a2 * a6 - a5 * a3)) * x3 - ((a2 * a5 - a4 * a3)) * x2 = (a3 * (x1 * a2 + x2 * a4 + x3 * a5) - a2 * (x1 * a3 + x2 * a5 + x3 * a6)) := by grind
    rw [r2, r3, ← h01, ← h02] at e
    omega
  have c121 : m11 * x3 = m12 * x2 := by
    have e : ((a1 * a6 - a3 * a3)) * x3 - (-(a1 * a5 - a2 * a3)) * x2 = -(a3 * (x1 * a1 + x2 * a2 + x3 * a3) - a1 * (x1 * a3 + x2 * a5 + x3 * a6)) := by grind
    rw [r1, r3, ← h11, ← h12] at e
    omega
  have c122 : m12 * x3 = m22 * x2 := by
    have e : (-(a1 * a5 - a2 * a3)) * x3 - ((a1 * a4 - a2 * a2)) * x2 = (a2 * (x1 * a1 + x2 * a2 + x3 * a3) - a1 * (x1 * a2 + x2 * a4 + x3 * a5)) := by grind
    rw [r1, r2, ← h12, ← h22] at e
    omega
  have tr : a1 * a4 - a2 * a2 + (a1 * a6 - a3 * a3) + (a4 * a6 - a5 * a5) = m00 + m11 + m22 := by rw [h00, h11, h22]; omega
  rw [tr, ← h00, ← h01, ← h02, ← h11, ← h12, ← h22]
  clear tr h00 h01 h02 h11 h12 h22 r1 r2 r3
  obtain ⟨u0, g0⟩ : ∃ u, u = m00 * b1 + m01 * b2 + m02 * b3 := ⟨_, rfl⟩
  obtain ⟨u1, g1⟩ : ∃ u, u = m01 * b1 + m11 * b2 + m12 * b3 := ⟨_, rfl⟩
  obtain ⟨u2, g2⟩ : ∃ u, u = m02 * b1 + m12 * b2 + m22 * b3 := ⟨_, rfl⟩
  rw [← g0, ← g1, ← g2]
  have d01 : u0 * x2 = u1 * x1 := by
    have e : (m00 * b1 + m01 * b2 + m02 * b3) * x2 - (m01 * b1 + m11 * b2 + m12 * b3) * x1 = b1 * (m00 * x2 - m01 * x1) + b2 * (m01 * x2 - m11 * x1) + b3 * (m02 * x2 - m12 * x1) := by grind
    rw [c010, c011, c012, ← g0, ← g1] at e
    omega
  have d02 : u0 * x3 = u2 * x1 := by
    have e : (m00 * b1 + m01 * b2 + m02 * b3) * x3 - (m02 * b1 + m12 * b2 + m22 * b3) * x1 = b1 * (m00 * x3 - m02 * x1) + b2 * (m01 * x3 - m12 * x1) + b3 * (m02 * x3 - m22 * x1) := by grind
    rw [c020, c021, c022, ← g0, ← g2] at e
    omega
  have d12 : u1 * x3 = u2 * x2 := by
    have e : (m01 * b1 + m11 * b2 + m12 * b3) * x3 - (m02 * b1 + m12 * b2 + m22 * b3) * x2 = b1 * (m01 * x3 - m02 * x2) + b2 * (m11 * x3 - m12 * x2) + b3 * (m12 * x3 - m22 * x2) := by grind
    rw [c120, c121, c122, ← g1, ← g2] at e
    omega
  have ux : u0 * x1 + u1 * x2 + u2 * x3 = (m00 + m11 + m22) * (x1 * b1 + x2 * b2 + x3 * b3) := by
    have e : (m00 * b1 + m01 * b2 + m02 * b3) * x1 + (m01 * b1 + m11 * b2 + m12 * b3) * x2 + (m02 * b1 + m12 * b2 + m22 * b3) * x3 = b1 * (m00 * x1 + m01 * x2 + m02 * x3) + b2 * (m01 * x1 + m11 * x2 + m12 * x3) + b3 * (m02 * x1 + m12 * x2 + m22 * x3) := by grind
    rw [c011, c022, ← c010, c122, ← c020, ← c121, ← g0, ← g1, ← g2] at e
    grind
  have e1 : (b1 * u0 + b2 * u1 + b3 * u2) * (x1 * x1 + x2 * x2 + x3 * x3) - (x1 * b1 + x2 * b2 + x3 * b3) * (u0 * x1 + u1 * x2 + u2 * x3) = b1 * (x2 * (u0 * x2 - u1 * x1) + x3 * (u0 * x3 - u2 * x1)) + b2 * (x3 * (u1 * x3 - u2 * x2) - x1 * (u0 * x2 - u1 * x1)) - b3 * (x1 * (u0 * x3 - u2 * x1) + x2 * (u1 * x3 - u2 * x2)) := by grind
  rw [d01, d02, d12, ux] at e1
  grind
theorem n0_4 {F : mT} {x : Nat → Int} (sy : syN 4 F) (hr : ∀ b, b < 3 → dS (fun a => x a * F a b) 3 = 0) : sE44 F * dS (fun a => x a * x a) 3 = F 3 3 * sE33 F * dS (fun a => x a * x a) 3 - sE32 F * (dS (fun a => x a * F a 3) 3 * dS (fun a => x a * F a 3) 3) := by
  have y10 := sy 1 0 (by decide) (by decide)
  have y20 := sy 2 0 (by decide) (by decide)
  have y21 := sy 2 1 (by decide) (by decide)
  have r0 := hr 0 (by decide)
  have r1 := hr 1 (by decide)
  have r2 := hr 2 (by decide)
  rw [dS_3] at r0 r1 r2
  rw [y10, y20] at r0
  rw [y21] at r1
  have k := n0_a (b1 := F 0 3) (b2 := F 1 3) (b3 := F 2 3) r0 r1 r2
  obtain ⟨-, -, -, e4⟩ := e4_e sy
  obtain ⟨⟨-, s2, s3⟩, -⟩ := e3_e (fun i j hi hj => sy i j (by omega) (by omega) : syN 3 F)
  rw [dS_3, dS_3, e4, s3, s2]
  grind
theorem pm_20 (F : mT) : sE21 (pmF F 0 1) = sE21 F ∧ sE22 (pmF F 0 1) = sE22 F := by
  unfold sE21 sE22 pmF
  simp only [sw]
  refine ⟨by simp; grind, by simp; grind⟩
theorem pm_30 (F : mT) : sE31 (pmF F 0 2) = sE31 F ∧ sE32 (pmF F 0 2) = sE32 F ∧ sE33 (pmF F 0 2) = sE33 F := by
  unfold sE31 sE32 sE33 pmF
  simp only [sw]
  refine ⟨by simp; grind, by simp; grind, by simp; grind⟩
theorem pm_31 (F : mT) : sE31 (pmF F 1 2) = sE31 F ∧ sE32 (pmF F 1 2) = sE32 F ∧ sE33 (pmF F 1 2) = sE33 F := by
  unfold sE31 sE32 sE33 pmF
  simp only [sw]
  refine ⟨by simp; grind, by simp; grind, by simp; grind⟩
theorem pm_40 (F : mT) : sE41 (pmF F 0 3) = sE41 F ∧ sE42 (pmF F 0 3) = sE42 F ∧ sE43 (pmF F 0 3) = sE43 F ∧ sE44 (pmF F 0 3) = sE44 F := by
  unfold sE41 sE42 sE43 sE44 pmF
  simp only [sw]
  refine ⟨by simp; grind, by simp; grind, by simp; grind, by simp; grind⟩
theorem pm_41 (F : mT) : sE41 (pmF F 1 3) = sE41 F ∧ sE42 (pmF F 1 3) = sE42 F ∧ sE43 (pmF F 1 3) = sE43 F ∧ sE44 (pmF F 1 3) = sE44 F := by
  unfold sE41 sE42 sE43 sE44 pmF
  simp only [sw]
  refine ⟨by simp; grind, by simp; grind, by simp; grind, by simp; grind⟩
theorem pm_42 (F : mT) : sE41 (pmF F 2 3) = sE41 F ∧ sE42 (pmF F 2 3) = sE42 F ∧ sE43 (pmF F 2 3) = sE43 F ∧ sE44 (pmF F 2 3) = sE44 F := by
  unfold sE41 sE42 sE43 sE44 pmF
  simp only [sw]
  refine ⟨by simp; grind, by simp; grind, by simp; grind, by simp; grind⟩
theorem pd_2 (F : mT) : pmF F 0 1 0 0 + pmF F 1 1 0 0 = 1 * sE21 F := by
  unfold sE21 pmF
  simp only [sw]
  simp; grind
theorem pd_3 (F : mT) : sE21 (pmF F 0 2) + sE21 (pmF F 1 2) + sE21 (pmF F 2 2) = 2 * sE31 F ∧ sE22 (pmF F 0 2) + sE22 (pmF F 1 2) + sE22 (pmF F 2 2) = 1 * sE32 F := by
  unfold sE21 sE22 sE31 sE32 pmF
  simp only [sw]
  refine ⟨by simp; grind, by simp; grind⟩
theorem pd_4 (F : mT) : sE31 (pmF F 0 3) + sE31 (pmF F 1 3) + sE31 (pmF F 2 3) + sE31 (pmF F 3 3) = 3 * sE41 F ∧ sE32 (pmF F 0 3) + sE32 (pmF F 1 3) + sE32 (pmF F 2 3) + sE32 (pmF F 3 3) = 2 * sE42 F ∧ sE33 (pmF F 0 3) + sE33 (pmF F 1 3) + sE33 (pmF F 2 3) + sE33 (pmF F 3 3) = 1 * sE43 F := by
  unfold sE31 sE32 sE33 sE41 sE42 sE43 pmF
  simp only [sw]
  refine ⟨by simp; grind, by simp; grind, by simp; grind⟩
