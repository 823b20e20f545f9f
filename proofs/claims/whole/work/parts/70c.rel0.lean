/-! the memory at the start, and that both sides agree there -/
def c0_T : List (Nat → Int32) := [(fun _ => 0), (fun _ => 0), (fun _ => 0), (fun _ => 0), (upd (fun _ => 0) 3 1), (fun _ => 0), (upd (fun _ => 0) 3 1), (fun _ => 0), (fun _ => 0), (fun _ => 0), (fun _ => 0), (fun _ => 0), (fun _ => 0), (fun _ => 0), (fun _ => 0), (upd (fun _ => 0) 17 1), (fun _ => 0), (fun _ => 0), (fun _ => 0), (fun _ => 0), (upd (upd (fun _ => 0) 0 (2)) 1 (3)), (upd (upd (upd (fun _ => 0) 0 (0)) 0 (1)) 0 (2)), (upd (upd (upd (upd (upd (fun _ => 0) 0 (0)) 1 (40)) 2 (10)) 3 (0)) 4 (0)), (fun _ => 0), (fun _ => 0), (upd (upd (fun _ => 0) 0 (2)) 1 (3)), (upd (upd (upd (fun _ => 0) 0 (0)) 0 (1)) 0 (2)), (upd (upd (upd (upd (upd (fun _ => 0) 0 (0)) 1 (40)) 2 (10)) 3 (0)) 4 (0)), (fun _ => 0), (fun _ => 0), (fun _ => 0), (fun _ => 0), (fun _ => 0), (fun _ => 0), (fun _ => 0), (fun _ => 0), (fun _ => 0), (fun _ => 0), (fun _ => 0), (fun _ => 0), (fun _ => 0), (fun _ => 0), (fun _ => 0), (fun _ => 0), (fun _ => 0), (fun _ => 0), (fun _ => 0), (fun _ => 0), (fun _ => 0), (fun _ => 0), (fun _ => 0), (fun _ => 0), (fun _ => 0), (fun _ => 0), (fun _ => 0), (fun _ => 0), (fun _ => 0), (fun _ => 0), (fun _ => 0), (fun _ => 0), (upd (fun _ => 0) 0 (2)), (upd (upd (fun _ => 0) 0 (2)) 1 (3)), (upd (upd (upd (upd (upd (fun _ => 0) 0 (0)) 1 (40)) 2 (10)) 3 (0)) 4 (0)), (fun _ => 0), (fun _ => 0), (fun _ => 0), (fun _ => 0), (fun _ => 0), (fun _ => 0), (fun _ => 0), (fun _ => 0), (fun _ => 0), (fun _ => 0), (fun _ => 0), (fun _ => 0), (fun _ => 0), (fun _ => 0), (fun _ => 0), (fun _ => 0), (fun _ => 0), (fun _ => 0), (fun _ => 0), (fun _ => 0)]
def c0_M : cd_M := (fun k => c0_T.getD k (fun _ => 0), fun _ _ => 0)
theorem c0_rel : Rel c0_M := by
  have z2 : ∀ c, c < 1 → c = 0 := fun c h => by omega
  refine ⟨0, fun _ => 0, 0, 0, fun _ _ _ => 0, 1, 0, fun _ => 2, fun _ i => if i = 0 then 2 else 3, fun v => if v = 1 then 40 else if v = 2 then 10 else 0, 0, fun _ _ => 0, fun _ => 0, 0, 0, fun _ => 0, fun _ _ _ => 0, fun _ _ => 0, ⟨⟨rfl, by omega, fun i h => absurd h (by omega)⟩, ⟨rfl, fun i h => absurd h (by omega)⟩⟩, ⟨⟨rfl, rfl, fun i h => absurd h (by omega)⟩, ⟨rfl, rfl, fun i _ _ h => absurd h (by omega)⟩, ⟨by omega, by omega, fun i _ _ h => absurd h (by omega)⟩⟩,
    ⟨⟨rfl, rfl, fun c h => by rw [z2 c h]; rfl, fun c i h h2 => by
      have h2 : i < 2 := h2
      rw [z2 c h]
      rcases (show i = 0 ∨ i = 1 by omega) with rfl | rfl <;> rfl, fun v h => by
      rcases (show v = 0 ∨ v = 1 ∨ v = 2 ∨ v = 3 ∨ v = 4 by omega) with rfl | rfl | rfl | rfl | rfl <;> rfl⟩, ⟨rfl, rfl, fun c h => by rw [z2 c h]; rfl, fun c i h h2 => by
      have h2 : i < 2 := h2
      rw [z2 c h]
      rcases (show i = 0 ∨ i = 1 by omega) with rfl | rfl <;> rfl, fun v h => by
      rcases (show v = 0 ∨ v = 1 ∨ v = 2 ∨ v = 3 ∨ v = 4 by omega) with rfl | rfl | rfl | rfl | rfl <;> rfl⟩, ⟨by omega, by omega, by omega, fun c h => ⟨show 1 ≤ 2 by omega, show 2 ≤ 6 by omega⟩, fun c i h h2 => by
      dsimp only
      split <;> omega, fun v h => by
      dsimp only
      split
      · omega
      · split <;> omega, by decide⟩⟩,
    ⟨⟨rfl, fun i h => absurd h (by omega)⟩, ⟨rfl, fun i _ h => absurd h (by omega), fun i h => absurd h (by omega)⟩, ⟨by omega, fun i _ h => absurd h (by omega), fun i h => absurd h (by omega)⟩⟩,
    ⟨⟨rfl, rfl, by omega, fun i h => absurd h (by omega)⟩, ⟨rfl, fun i h => absurd h (by omega)⟩, ⟨by omega, fun i h => absurd h (by omega)⟩⟩, fun c h => Or.inl (by rw [z2 c h]; rfl), Or.inl rfl⟩
