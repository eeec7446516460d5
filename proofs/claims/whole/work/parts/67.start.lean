/-! THE START: the memory behind the two constructors -/
def gWd : Nat → Int32 := upd (upd (upd (upd (upd (upd (upd (upd (upd (upd (upd (upd (upd (upd (upd (upd (upd (upd (upd (upd (upd (upd (upd (upd (upd (upd (upd (upd (upd (upd (fun _ => 0) 0 108) 1 97) 2 110) 3 101) 4 0) 5 0) 6 111) 7 110) 8 101) 9 0) 10 0) 11 0) 12 97) 13 117) 14 110) 15 116) 16 0) 17 0) 18 97) 19 119) 20 97) 21 121) 22 0) 23 0) 24 99) 25 111) 26 117) 27 110) 28 116) 29 115
def gM0 : gM := (fun c k => if c = 68 then gWd k else if c = 64 then upd (fun _ => 0) 10 12 k else if (c = 2 ∨ c = 17 ∨ c = 32 ∨ c = 51) ∧ k = 0 then 12 else 0, fun c k => if c = 49 then (if k = 1 then 1 else 0) else if c = 63 then (if k = 4 then 1 else 0) else 0)
theorem gM0_wd : ∀ i, i < 5 → ∀ k, k < 6 → mrd gM0 68 (6 * i + k) = rW68 i k := by decide +kernel
theorem gM0_inv : INV gM0 := by
  refine ⟨HR0 (W := 12) rfl rfl rfl rfl rfl rfl (by omega) (by omega) rfl rfl rfl rfl rfl rfl rfl rfl rfl rfl rfl rfl rfl, ⟨rfl, fun h => absurd rfl h⟩, ⟨rfl, fun h => absurd rfl h⟩, ⟨0, by omega, rfl, rfl⟩, rfl, fun i k hi hk => gM0_wd i hi k hk, by decide +kernel, by decide +kernel, fun k _ => ?_⟩
  match k with
  | 0 => rfl
  | 1 => rfl
  | k + 2 => rfl
/-- where the cells lie -/
def gAd (f g s b : Nat → Nat) : Nat → Nat := fun i => if i < 63 then f i else if i < 76 then g (i - 63) else if i < 1100 then s (i - 1000) else b (i - 1100)
theorem gW0_63 {D : va_G} {I Z : ClassId} {fm : Value} {f g s b : Nat → Nat} : Option.map (fun sh => (gAd f g s b 63, gE (D, gAd f g s b, (I, Z), fm) gM0 63 sh)) gSh[63]? = (kX10 (D, I, Z) f 0 ++ kX11 (D, I, Z) g 0)[63]? := by
  show some (gAd f g s b 63, gE (D, gAd f g s b, (I, Z), fm) gM0 63 (.inr (10, [some (some 64), some (some 65), some (some 66), some none, some none, some (some 67), none, some (some 68), none, none, none, none, none, some (some 69), some (some 70), some (some 71), none, none, some (some 72), some (some 73), some (some 74), some (some 75)]))) = _
  unfold gE
  simp only [List.mapIdx_cons, List.mapIdx_nil]
  rfl
theorem gW0 {D : va_G} {I Z : ClassId} {fm : Value} {f g s b : Nat → Nat} : gW (D, gAd f g s b, (I, Z), fm) gM0 = kX10 (D, I, Z) f 0 ++ kX11 (D, I, Z) g 0 := by
  apply List.ext_getElem?
  intro i
  unfold gW
  rw [List.getElem?_mapIdx]
  match i with
  | 0 => rfl
  | 1 => rfl
  | 2 => rfl
  | 3 => rfl
  | 4 => rfl
  | 5 => rfl
  | 6 => rfl
  | 7 => rfl
  | 8 => rfl
  | 9 => rfl
  | 10 => rfl
  | 11 => rfl
  | 12 => rfl
  | 13 => rfl
  | 14 => rfl
  | 15 => rfl
  | 16 => rfl
  | 17 => rfl
  | 18 => rfl
  | 19 => rfl
  | 20 => rfl
  | 21 => rfl
  | 22 => rfl
  | 23 => rfl
  | 24 => rfl
  | 25 => rfl
  | 26 => rfl
  | 27 => rfl
  | 28 => rfl
  | 29 => rfl
  | 30 => rfl
  | 31 => rfl
  | 32 => rfl
  | 33 => rfl
  | 34 => rfl
  | 35 => rfl
  | 36 => rfl
  | 37 => rfl
  | 38 => rfl
  | 39 => rfl
  | 40 => rfl
  | 41 => rfl
  | 42 => rfl
  | 43 => rfl
  | 44 => rfl
  | 45 => rfl
  | 46 => rfl
  | 47 => rfl
  | 48 => rfl
  | 49 => rfl
  | 50 => rfl
  | 51 => rfl
  | 52 => rfl
  | 53 => rfl
  | 54 => rfl
  | 55 => rfl
  | 56 => rfl
  | 57 => rfl
  | 58 => rfl
  | 59 => rfl
  | 60 => rfl
  | 61 => rfl
  | 62 => rfl
  | 63 => exact gW0_63
  | 64 => rfl
  | 65 => rfl
  | 66 => rfl
  | 67 => rfl
  | 68 => rfl
  | 69 => rfl
  | 70 => rfl
  | 71 => rfl
  | 72 => rfl
  | 73 => rfl
  | 74 => rfl
  | 75 => rfl
  | i + 76 => rw [List.getElem?_eq_none (by rw [gSh_len]; omega), List.getElem?_eq_none (Nat.le_trans (Nat.le_of_ble_eq_true rfl : (kX10 (D, I, Z) f 0 ++ kX11 (D, I, Z) g 0).length ≤ 76) (by omega))]; rfl
