/-! ===== the law from its entry ===== -/
def la_S0 : qm_S := (fun _ => (0, fun _ => 0), fun _ => 50, fun _ => 0)
def la_M0 (f : Nat → Int32) : mm_M := (fun i => if i = 0 then f else fun _ => 0, 0)
theorem st_0 {f : Nat → Int32} (h : ∀ k, k < 4 → f k = 50) : st_R la_S0 (la_M0 f) := by
  intro k hk
  refine ⟨0, 0, fun _ => 0, fun _ => 0, fun _ => 0, fun _ => 0, 50, ⟨by omega, by omega, fun i j _ hj => absurd hj (by omega), fun j hj => absurd hj (by omega), rfl, fun i j _ hj => absurd hj (by omega), fun j hj => absurd hj (by omega)⟩, ⟨⟨⟨rfl, rfl, rfl⟩, fun j hj => absurd hj (by omega), fun j hj => absurd hj (by omega), fun j hj => absurd hj (by omega)⟩, ⟨0, fun _ => 0, fun _ => 0, ⟨rfl, rfl, rfl⟩, fun j hj => absurd hj (by omega), fun j hj => absurd hj (by omega), fun i j _ hj => absurd hj (by omega), ⟨fun j hj => absurd hj (by omega), fun j hj => absurd hj (by omega)⟩, rfl, fun y => rfl⟩, ⟨0, 0, fun _ => 0, fun _ => 0, ⟨⟨⟨rfl, fun j hj => absurd hj (by omega), fun j _ hj => absurd hj (by omega)⟩, ⟨rfl, fun j hj => absurd hj (by omega), fun j _ hj => absurd hj (by omega)⟩⟩, ⟨rfl, rfl⟩, fun y => rfl, fun y hy => absurd hy (Nat.lt_irrefl 0)⟩, rfl, by omega, by omega⟩, rfl⟩, ⟨⟨h k hk, rfl, rfl⟩, fun j hj => absurd hj (by omega), fun j hj => absurd hj (by omega), fun j hj => absurd hj (by omega), fun j hj => absurd hj (by omega)⟩⟩
abbrev la_ad (a : Nat) (V : Nat → Nat) : Nat → Nat := fun i => ([a, V 1, V 2, V 22, V 42, V 62, V 3, V 23, V 43, V 63, V 10, V 30, V 50, V 70, V 15, V 35, V 55, V 75, V 16, V 19, V 36, V 39, V 56, V 59, V 76, V 79, V 4, V 24, V 44, V 64, V 6, V 26, V 46, V 66, V 8, V 28, V 48, V 68, V 11, V 31, V 51, V 71, V 13, V 33, V 53, V 73, V 17, V 20, V 37, V 40, V 57, V 60, V 77, V 80, V 5, V 25, V 45, V 65, V 7, V 27, V 47, V 67, V 9, V 29, V 49, V 69, V 12, V 32, V 52, V 72, V 14, V 34, V 54, V 74, V 18, V 21, V 38, V 41, V 58, V 61, V 78, V 81] : List Nat).getD i 0
abbrev la_is : List Nat := [0, 1, 2, 22, 42, 62, 3, 23, 43, 63, 10, 30, 50, 70, 15, 35, 55, 75, 16, 19, 36, 39, 56, 59, 76, 79, 4, 24, 44, 64, 6, 26, 46, 66, 8, 28, 48, 68, 11, 31, 51, 71, 13, 33, 53, 73, 17, 20, 37, 40, 57, 60, 77, 80, 5, 25, 45, 65, 7, 27, 47, 67, 9, 29, 49, 69, 12, 32, 52, 72, 14, 34, 54, 74, 18, 21, 38, 41, 58, 61, 78, 81]
set_option maxHeartbeats 4000000 in
set_option maxRecDepth 100000 in
theorem la_wP {D : va_G} {cI cQ : ClassId} {a : Nat} {V : Nat → Nat} {H : Heap} (hP : va_P D vwCl ([] ++ ic_Q cI cQ a V) H) : va_P D vwCl (qm_w (la_ad a V) cI cQ la_S0) H := by
  have h1 : va_P D vwCl ([(a, .inr (6, [.ref (V 1)]))] ++ ((V 1, .inl (cQ, 4, .inr (.inr (.inr (.inr (fun j => some (V (2 + 20 * j)))))))) :: ((((([] : va_W) ++ ic_C cI (V 2) (fun i => V (3 + i))) ++ ic_C cI (V 22) (fun i => V (23 + i))) ++ ic_C cI (V 42) (fun i => V (43 + i))) ++ ic_C cI (V 62) (fun i => V (63 + i))))) H := hP
  have h2 := ip_fix (f' := fun j => some (la_ad a V (2 + j))) h1 (fun j hj => by rcases (show j = 0 ∨ j = 1 ∨ j = 2 ∨ j = 3 by omega) with rfl | rfl | rfl | rfl <;> rfl)
  exact h2.sub la_is rfl
set_option maxHeartbeats 4000000 in
set_option maxRecDepth 100000 in
theorem la_wD {A : Nat → Prop} {cI cQ : ClassId} {a : Nat} {V : Nat → Nat} (hD : va_D A ([] ++ ic_Q cI cQ a V)) : va_D A (qm_w (la_ad a V) cI cQ la_S0) := by
  have h1 : va_D A ([(a, .inr (6, [.ref (V 1)]))] ++ ((V 1, .inl (cQ, 4, .inr (.inr (.inr (.inr (fun j => some (V (2 + 20 * j)))))))) :: ((((([] : va_W) ++ ic_C cI (V 2) (fun i => V (3 + i))) ++ ic_C cI (V 22) (fun i => V (23 + i))) ++ ic_C cI (V 42) (fun i => V (43 + i))) ++ ic_C cI (V 62) (fun i => V (63 + i))))) := hD
  have h2 : va_D A ([(a, .inr (6, [.ref (V 1)]))] ++ ((V 1, .inl (cQ, 4, .inr (.inr (.inr (.inr (fun j => some (la_ad a V (2 + j)))))))) :: ((((([] : va_W) ++ ic_C cI (V 2) (fun i => V (3 + i))) ++ ic_C cI (V 22) (fun i => V (23 + i))) ++ ic_C cI (V 42) (fun i => V (43 + i))) ++ ic_C cI (V 62) (fun i => V (63 + i))))) := h1.set (p := 1) (e := .inl (cQ, 4, .inr (.inr (.inr (.inr (fun j => some (la_ad a V (2 + j)))))))) rfl
  exact h2.sub la_is (by decide +kernel) rfl
abbrev la_am (a : Nat) (V : Nat → Nat) : Nat → Nat := fun i => if i = 0 then a else V i
theorem la_wN {cI : ClassId} {a : Nat} {V : Nat → Nat} {f : Nat → Int32} : ic_N cI a V f = mm_w (la_am a V) cI (la_M0 f) := rfl
