/-! Where the class's cells come. -/
def adW (k : Nat) : Nat :=
  if k < 10 then 2 + 2 * k else if k < 110 then 66 + 22 * ((k - 10) / 10) + 2 * ((k - 10) % 10) else if k < 120 then 42 + 2 * (k - 110) else if k < 121 then 62 else if k < 133 then 432 + 82 * ((k - 121) / 4) + 2 * ((k - 121) % 4) else if k < 137 then 292 + 2 * (k - 133) else if k < 141 then 302 + 2 * (k - 137) else
  if k < 192 then 360 + 82 * ((k - 141) / 17) + 2 * ((k - 141) % 17) else
  if k < 260 then 606 + 36 * ((k - 192) / 17) + 2 * ((k - 192) % 17) else
  if k < 311 then 396 + 82 * ((k - 260) / 17) + 2 * ((k - 260) % 17) else
  if k < 328 then 319 + 2 * (k - 311) else if k = 328 then 310 else if k = 329 then 312 else if k = 330 then 354 else 356
def ad1 : List Nat := [22, 29, 1, 36, 284, 316, 0, 0, 0, 0, 23, 30, 37, 38, 39, 285, 286, 287, 288, 289, 314, 315, 353]
def ad7 (r : Nat) : Nat := if r < 10 then 64 + 22 * r else if r = 10 then 40 else if r < 14 then 430 + 82 * (r - 11) else if r = 14 then 290 else 300
def ad9 (g : Nat) : Nat := if g < 3 then 358 + 82 * g else if g < 7 then 604 + 36 * (g - 3) else if g < 10 then 394 + 82 * (g - 7) else 317
def adr (a : eA) : Nat := match a.1 with
  | 1 => ad1.getD a.2 0
  | 2 => adW a.2
  | 3 => adW a.2 + 1
  | 5 => 24 + a.2
  | 6 => 31 + a.2
  | 7 => ad7 a.2
  | 8 => ad7 a.2 + 1
  | 9 => ad9 a.2
  | 10 => ad9 a.2 + 1
  | _ => 0
section AD
variable {G : eG} {z : Nat}
theorem adr_e (hG : ∀ id, G.2.2 id = z + adr id) {id : eA} {c d : Nat} (h : adr id = c) (e : z + c = d) : G.2.2 id = d := by rw [hG, h, e]
theorem adr_r (hG : ∀ id, G.2.2 id = z + adr id) {r lo N c d : Nat} (h : adr (8, r) = c ∧ ∀ j, j < N → lw (lo + j) = 32 ∧ adr (2, lo + j) = c + 1 + 2 * j ∧ adr (3, lo + j) = c + 2 + 2 * j) (e : z + c = d) : aRow G r lo N d := by
  subst e
  exact ⟨by rw [hG, h.1], fun j hj => ⟨(h.2 j hj).1, by rw [hG, (h.2 j hj).2.1]; omega, by rw [hG, (h.2 j hj).2.2]; omega⟩⟩
theorem adr_g (hG : ∀ id, G.2.2 id = z + adr id) {g lo L c d : Nat} (h : adr (10, g) = c ∧ ∀ j, j < 17 → lw (lo + j) = L ∧ adr (2, lo + j) = c + 1 + 2 * j ∧ adr (3, lo + j) = c + 2 + 2 * j) (e : z + c = d) : aGrd G g lo L d := by
  subst e
  exact ⟨by rw [hG, h.1], fun j hj => ⟨(h.2 j hj).1, by rw [hG, (h.2 j hj).2.1]; omega, by rw [hG, (h.2 j hj).2.2]; omega⟩⟩
theorem ad_1 : ∀ j, j < 10 → adr (2, j) = 2 + 2 * j ∧ adr (3, j) = 3 + 2 * j := by decide +kernel
theorem ad_3 : ∀ r, r < 10 → adr (7, r) = 64 + 22 * r ∧ adr (8, r) = 65 + 22 * r ∧ ∀ j, j < 10 → lw (10 + 10 * r + j) = 32 ∧ adr (2, 10 + 10 * r + j) = 65 + 22 * r + 1 + 2 * j ∧ adr (3, 10 + 10 * r + j) = 65 + 22 * r + 2 + 2 * j := by decide +kernel
theorem ad_0a : ∀ j, j < 5 → adr (1, 15 + j) = 285 + j := by decide +kernel
theorem ad_0b : ∀ j, j < 2 → adr (7, 14 + j) = 290 + 10 * j ∧ (adr (8, 14 + j) = 291 + 10 * j ∧ ∀ i, i < 4 → lw (133 + 4 * j + i) = 32 ∧ adr (2, 133 + 4 * j + i) = 291 + 10 * j + 1 + 2 * i ∧ adr (3, 133 + 4 * j + i) = 291 + 10 * j + 2 + 2 * i) ∧ adr (2, 328 + j) = 310 + 2 * j ∧ adr (3, 328 + j) = 311 + 2 * j ∧ adr (1, 20 + j) = 314 + j := by decide +kernel
theorem ad_0c : ∀ j, j < 3 → adr (9, 0 + j) = 358 + 82 * j ∧ (adr (10, 0 + j) = 359 + 82 * j ∧ ∀ i, i < 17 → lw (141 + 17 * j + i) = 32 ∧ adr (2, 141 + 17 * j + i) = 359 + 82 * j + 1 + 2 * i ∧ adr (3, 141 + 17 * j + i) = 359 + 82 * j + 2 + 2 * i) := by decide +kernel
theorem ad_0d : ∀ j, j < 3 → adr (9, 7 + j) = 394 + 82 * j ∧ (adr (10, 7 + j) = 395 + 82 * j ∧ ∀ i, i < 17 → lw (260 + 17 * j + i) = 32 ∧ adr (2, 260 + 17 * j + i) = 395 + 82 * j + 1 + 2 * i ∧ adr (3, 260 + 17 * j + i) = 395 + 82 * j + 2 + 2 * i) := by decide +kernel
theorem ad_0e : ∀ j, j < 3 → adr (7, 11 + j) = 430 + 82 * j ∧ (adr (8, 11 + j) = 431 + 82 * j ∧ ∀ i, i < 4 → lw (121 + 4 * j + i) = 32 ∧ adr (2, 121 + 4 * j + i) = 431 + 82 * j + 1 + 2 * i ∧ adr (3, 121 + 4 * j + i) = 431 + 82 * j + 2 + 2 * i) := by decide +kernel
theorem ad_0f : ∀ j, j < 4 → adr (9, 3 + j) = 604 + 36 * j ∧ (adr (10, 3 + j) = 605 + 36 * j ∧ ∀ i, i < 17 → lw (192 + 17 * j + i) = 32 ∧ adr (2, 192 + 17 * j + i) = 605 + 36 * j + 1 + 2 * i ∧ adr (3, 192 + 17 * j + i) = 605 + 36 * j + 2 + 2 * i) := by decide +kernel
theorem ad_0g : adr (10, 10) = 318 ∧ ∀ i, i < 17 → lw (311 + i) = 64 ∧ adr (2, 311 + i) = 318 + 1 + 2 * i ∧ adr (3, 311 + i) = 318 + 2 + 2 * i := by decide +kernel
theorem ad_3b : adr (8, 10) = 41 ∧ ∀ j, j < 10 → lw (110 + j) = 32 ∧ adr (2, 110 + j) = 41 + 1 + 2 * j ∧ adr (3, 110 + j) = 41 + 2 + 2 * j := by decide +kernel
theorem sp9_i (hG : ∀ id, G.2.2 id = z + adr id) {M : eM} (h : M (0, 0) = some (eO 8 [eN, eN, eN, eN, eN, eI 0, eI 0])) : sp9 G (z + 1) [eR (0, 0)] M (coM M) := by
  refine ⟨rfl, h, ⟨adr_e hG (c := 1) (by decide +kernel) rfl, adr_e hG (c := 22) (by decide +kernel) (by omega), adr_e hG (c := 29) (by decide +kernel) (by omega), adr_e hG (c := 36) (by decide +kernel) (by omega), adr_e hG (c := 284) (by decide +kernel) (by omega)⟩, fun X hX => ⟨rfl, hX, fun j hj => ⟨adr_e hG (ad_1 j hj).1 (by omega), adr_e hG (ad_1 j hj).2 (by omega)⟩, rfl⟩, fun X hX => ⟨rfl, hX, adr_e hG (c := 23) (by decide +kernel) (by omega), fun j hj => adr_e hG (c := 24 + j) rfl (by omega), rfl⟩, fun X hX => ⟨rfl, hX, adr_e hG (c := 30) (by decide +kernel) (by omega), fun j hj => adr_e hG (c := 31 + j) rfl (by omega), rfl⟩, fun X hX => ⟨rfl, hX, adr_e hG (c := 37) (by decide +kernel) (by omega), adr_e hG (c := 38) (by decide +kernel) (by omega), adr_e hG (c := 39) (by decide +kernel) (by omega), adr_e hG (c := 40) (by decide +kernel) (by omega), adr_r hG ad_3b (by omega), adr_e hG (c := 62) (by decide +kernel) (by omega), adr_e hG (c := 63) (by decide +kernel) (by omega), fun r hr => ⟨adr_e hG (ad_3 r hr).1 (by omega), adr_r hG (ad_3 r hr).2 (by omega)⟩, rfl⟩, fun X hX => ⟨rfl, hX, fun j hj => adr_e hG (ad_0a j hj) (by omega), fun j hj => ⟨adr_e hG (ad_0b j hj).1 (by omega), adr_r hG (ad_0b j hj).2.1 (by omega), adr_e hG (ad_0b j hj).2.2.1 (by omega), adr_e hG (ad_0b j hj).2.2.2.1 (by omega), adr_e hG (ad_0b j hj).2.2.2.2 (by omega)⟩, adr_e hG (c := 316) (by decide +kernel) (by omega), ⟨adr_e hG (c := 317) (by decide +kernel) (by omega), adr_g hG ad_0g (by omega), adr_e hG (c := 353) (by decide +kernel) (by omega), adr_e hG (c := 354) (by decide +kernel) (by omega), adr_e hG (c := 355) (by decide +kernel) (by omega), adr_e hG (c := 356) (by decide +kernel) (by omega), adr_e hG (c := 357) (by decide +kernel) (by omega)⟩, fun j hj => ⟨adr_e hG (ad_0c j hj).1 (by omega), adr_g hG (ad_0c j hj).2 (by omega), adr_e hG (ad_0d j hj).1 (by omega), adr_g hG (ad_0d j hj).2 (by omega), adr_e hG (ad_0e j hj).1 (by omega), adr_r hG (ad_0e j hj).2 (by omega)⟩, fun j hj => ⟨adr_e hG (ad_0f j hj).1 (by omega), adr_g hG (ad_0f j hj).2 (by omega)⟩, rfl⟩, rfl⟩
end AD
def adM (a : eA) : Nat := if a = (0, 0) then 0 else 1 + moI.findIdx (fun b => b == a)
theorem adM_e : ∀ j, j < 13 → moI[j]?.map adM = some (1 + j) := by decide +kernel
theorem sp10_i {G : eG} {z : Nat} (hG : ∀ id, G.2.2 id = z + adM id) {M : eM} (h : M (0, 0) = some (eO 9 [eN, eN, eN, eN, eN, eN, eI 0, eN, eN, eI 0, eI 0, eI 0, eI 0, eI 0, eI 0, eN, eN, eI 0, eN, eI 0, eN, eN, eI 0])) : sp10 G (z + 1) [eR (0, 0)] M (moM M) := by
  refine ⟨rfl, h, fun j a hj => ?_, rfl⟩
  have hlt : j < 13 := by
    rcases Nat.lt_or_ge j 13 with q | q
    · exact q
    · rw [List.getElem?_eq_none (by show moI.length ≤ j; exact q)] at hj; cases hj
  have h1 := adM_e j hlt
  rw [hj] at h1
  rw [hG, Option.some.inj h1]
  omega
