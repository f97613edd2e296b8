/-! tied at the start -/
theorem yTi_0 {w : xv_M} {h N M : Nat} (a1 : yCl w h N M (fun e => N + 94 + 7 * e)) (z : ∀ b q, b < M + 31 → ¬ (b = h ∧ q = 7) → ¬ (b = M ∧ q = 34) → xv_i w b q = 0) (hh : xv_i w h 7 = -1) (hM : xv_i w M 34 = -1) : yTi w h N M := by
  have hl : h < N ∧ N + 209 ≤ M ∧ M + 31 ≤ xv_N w := ⟨a1.2.2.2.2.2.2.1, a1.2.2.2.2.2.2.2, a1.2.2.2.2.2.1⟩
  have z0 : ∀ b q, N ≤ b → b < M + 31 → ¬ b = M → xv_i w b q = nI 0 := fun b q h1 h2 h3 => z b q h2 (by omega) (by omega)
  have zM : ∀ q, ¬ q = 34 → xv_i w M q = 0 := fun q h1 => z M q (by omega) (by omega) (by omega)
  have zh : ∀ q, ¬ q = 7 → xv_i w h q = 0 := fun q h1 => z h q (by omega) (by omega) (by omega)
  have hD : yD w N M := ⟨0, fun _ => 0, fun _ => 0, ⟨z0 N 2 (by omega) (by omega) (by omega), Nat.zero_le _, fun i hi => absurd hi (Nat.not_lt_zero i)⟩, ⟨z0 (M + 3) 8 (by omega) (by omega) (by omega), Nat.zero_le _, fun i hi => absurd hi (Nat.not_lt_zero i)⟩, fun p hp => absurd hp (Nat.not_lt_zero p)⟩
  have hF : yF w N M := by
    refine ⟨fun _ => 0, fun _ => 0, fun _ _ => 0, fun _ _ => 0, fun _ => (fun _ => 0, fun _ => 0, fun _ => 0, fun _ => 0), fun g hg => ⟨⟨z0 (N + 8 + 10 * g) 2 (by omega) (by omega) (by omega), Nat.zero_le _, fun i hi => absurd hi (Nat.not_lt_zero i)⟩, z0 (N + 8 + 10 * g) 3 (by omega) (by omega) (by omega), fun c => absurd c (Nat.lt_irrefl 0)⟩, fun f hf => ⟨fun p hp => absurd hp (Nat.not_lt_zero p), Nat.zero_le _, z0 (M + 3) f (by omega) (by omega) (by omega), fun c => absurd c (Nat.lt_irrefl 0)⟩⟩
  have hA : yA' w N M (fun e => N + 94 + 7 * e) := by
    refine ⟨⟨?_, ?_⟩, (0, fun _ => 0, fun _ => (fun _ => 0, fun _ => 0, fun _ => 0, fun _ => 0), fun _ _ => 0, fun _ _ => 0), ⟨z0 (N + 89) 1 (by omega) (by omega) (by omega), zM 31 (by omega), Nat.zero_le _⟩, fun e he => ⟨Or.inl (z0 (N + 94 + 7 * e) 6 (by omega) (by omega) (by omega)), 0, Nat.zero_le _, z0 (N + 94 + 7 * e + 1) 3 (by omega) (by omega) (by omega), fun i hi => absurd hi (Nat.not_lt_zero i)⟩, fun e he => absurd he (Nat.not_lt_zero e)⟩
    · rw [z0 (N + 89) 2 (by omega) (by omega) (by omega), zM 29 (by omega)]; rfl
    · rw [z0 (N + 89) 3 (by omega) (by omega) (by omega), zM 30 (by omega)]; rfl
  have hI : yI w N M := ⟨fun _ => 0, fun _ => 0, fun _ => (fun _ => 0, fun _ => 0, fun _ => 0, fun _ => 0), fun f hf => ⟨⟨z0 (N + 153 + 7 * f) 3 (by omega) (by omega) (by omega), Nat.zero_le _, fun i hi => absurd hi (Nat.not_lt_zero i)⟩, fun _ => z0 (M + 14) f (by omega) (by omega) (by omega), fun c => absurd c (Nat.lt_irrefl 0)⟩⟩
  exact ⟨_, a1, hD, hF, hA, hI, by rw [zh 5 (by omega), zM 32 (by omega)], by rw [zh 6 (by omega), zM 33 (by omega)], by rw [hh, hM]⟩
/-- the static part, out of what the constructors leave -/
theorem yCl_0 {w : xv_M} {h N M : Nat} (hD : xDL w h N) (hM : xMo w M) (ho : xv_k w (M + 30) = 102 ∧ xv_l w (M + 30) = 1) (hn : M + 31 ≤ xv_N w) (hh : h < N) (hN : N + 209 ≤ M) : yCl w h N M (fun e => N + 94 + 7 * e) := by
  obtain ⟨d1, d2, d3, d4, ⟨d5, d6, d7⟩, d8⟩ := hD
  refine ⟨⟨d1, d2, d3, d4⟩, ⟨d5, d6, ⟨fun e he => ?_, fun j hj => ?_⟩, d8⟩, hM, ho, ⟨fun e he => ⟨e, he, rfl⟩, fun e e' _ _ q => ?_⟩, hn, hh, hN⟩
  · have := (d7 e he).1
    rw [show N + 90 + 4 + 7 * e = N + 94 + 7 * e by omega] at this
    exact this
  · have := (d7 j hj).2
    rw [show N + 90 + 4 + 7 * j = N + 94 + 7 * j by omega] at this
    exact this
  · have q : N + 94 + 7 * e = N + 94 + 7 * e' := q
    omega

