/-! the class's and the model's cells stay what they are -/
def zS (T : Nat → Prop) (u w : xv_M) : Prop := ∀ b, T b → xv_k w b = xv_k u b ∧ xv_l w b = xv_l u b ∧ ∀ q, xv_r w b q = xv_r u b q
theorem xFo_z {T : Nat → Prop} {u w : xv_M} (z : zS T u w) {h o a t : Nat} (t0 : T h) (t1 : T o) (t2 : T a) (t3 : T t) (H : xv_Fo u h o a t) : xv_Fo w h o a t := by
  obtain ⟨a1, a2, a3, a4, a5, a6, a7, a8, a9, a10⟩ := H
  exact ⟨(z h t0).1.trans a1, ((z h t0).2.2 0).trans a2, ((z h t0).2.2 1).trans a3, ((z h t0).2.2 4).trans a4, (z o t1).1.trans a5, (z o t1).2.1.trans a6, (z a t2).1.trans a7, (z a t2).2.1.trans a8, (z t t3).1.trans a9, (z t t3).2.1.trans a10⟩
theorem xFr_z {T : Nat → Prop} {u w : xv_M} (z : zS T u w) {h a b : Nat} (t0 : T h) (t1 : T a) (t2 : T b) (H : xv_Fr u h a b) : xv_Fr w h a b := by
  obtain ⟨a1, a2, a3, a4, a5, a6, a7⟩ := H
  exact ⟨(z h t0).1.trans a1, ((z h t0).2.2 0).trans a2, ((z h t0).2.2 1).trans a3, (z a t1).1.trans a4, (z a t1).2.1.trans a5, (z b t2).1.trans a6, (z b t2).2.1.trans a7⟩
theorem xOp_z {T : Nat → Prop} {u w : xv_M} (z : zS T u w) {h a b : Nat} (t0 : T h) (t1 : T a) (t2 : T b) (H : xv_Op u h a b) : xv_Op w h a b := by
  obtain ⟨a1, a2, a3, a4, a5, a6, a7⟩ := H
  exact ⟨(z h t0).1.trans a1, ((z h t0).2.2 0).trans a2, ((z h t0).2.2 1).trans a3, (z a t1).1.trans a4, (z a t1).2.1.trans a5, (z b t2).1.trans a6, (z b t2).2.1.trans a7⟩
theorem xCo_z {T : Nat → Prop} {u w : xv_M} (z : zS T u w) {h o f g : Nat} (t0 : T h) (t1 : T o) (t2 : T f) (t3 : T g) (H : xv_Co u h o f g) : xv_Co w h o f g := by
  obtain ⟨a1, a2, a3, a4, a5, a6, a7, a8, a9, a10⟩ := H
  exact ⟨(z h t0).1.trans a1, ((z h t0).2.2 0).trans a2, ((z h t0).2.2 1).trans a3, ((z h t0).2.2 2).trans a4, (z o t1).1.trans a5, (z o t1).2.1.trans a6, (z f t2).1.trans a7, (z f t2).2.1.trans a8, (z g t3).1.trans a9, (z g t3).2.1.trans a10⟩
theorem xEn_z {T : Nat → Prop} {u w : xv_M} (z : zS T u w) {x : Nat} (t0 : ∀ b, x ≤ b → b ≤ x + 6 → T b) (H : xv_En u x (x + 1) (x + 2) (x + 3) (x + 4) (x + 5) (x + 6)) : xv_En w x (x + 1) (x + 2) (x + 3) (x + 4) (x + 5) (x + 6) := by
  obtain ⟨a1, a2, a3, a4, a5, a6, a7, a8, a9⟩ := H
  exact ⟨(z x (t0 _ (by omega) (by omega))).1.trans a1, ((z x (t0 _ (by omega) (by omega))).2.2 0).trans a2, ((z x (t0 _ (by omega) (by omega))).2.2 1).trans a3, ((z x (t0 _ (by omega) (by omega))).2.2 7).trans a4, (z _ (t0 _ (by omega) (by omega))).1.trans a5, (z _ (t0 _ (by omega) (by omega))).2.1.trans a6, (z _ (t0 _ (by omega) (by omega))).1.trans a7, (z _ (t0 _ (by omega) (by omega))).2.1.trans a8, xCo_z z (t0 _ (by omega) (by omega)) (t0 _ (by omega) (by omega)) (t0 _ (by omega) (by omega)) (t0 _ (by omega) (by omega)) a9⟩
theorem xIn_z {T : Nat → Prop} {u w : xv_M} (z : zS T u w) {h ma fa oa B : Nat} (t0 : T h) (t1 : T ma) (t2 : T fa) (t3 : T oa) (t4 : ∀ b, B ≤ b → b < B + 80 → T b) (H : xIn u h ma fa oa B) : xIn w h ma fa oa B := by
  obtain ⟨a1, a2, a3, a4, a5, a6, a7, a8, a9, a10, a11⟩ := H
  refine ⟨(z h t0).1.trans a1, ((z h t0).2.2 0).trans a2, ((z h t0).2.2 1).trans a3, ((z h t0).2.2 2).trans a4, (z _ t1).1.trans a5, (z _ t1).2.1.trans a6, (z _ t2).1.trans a7, (z _ t2).2.1.trans a8, (z _ t3).1.trans a9, (z _ t3).2.1.trans a10, fun f hf => ?_⟩
  obtain ⟨b1, b2, b3, b4, b5, b6⟩ := a11 f hf
  exact ⟨((z _ t1).2.2 f).trans b1, ((z _ t2).2.2 f).trans b2, ((z _ t3).2.2 f).trans b3, xFo_z z (t4 _ (by omega) (by omega)) (t4 _ (by omega) (by omega)) (t4 _ (by omega) (by omega)) (t4 _ (by omega) (by omega)) b4, xFr_z z (t4 _ (by omega) (by omega)) (t4 _ (by omega) (by omega)) (t4 _ (by omega) (by omega)) b5, xOp_z z (t4 _ (by omega) (by omega)) (t4 _ (by omega) (by omega)) (t4 _ (by omega) (by omega)) b6⟩
theorem xIm_z {T : Nat → Prop} {u w : xv_M} (z : zS T u w) {h ca fa B : Nat} (t0 : T h) (t1 : T ca) (t2 : T fa) (t4 : ∀ b, B ≤ b → b < B + 56 → T b) (H : xIm u h ca fa B) : xIm w h ca fa B := by
  obtain ⟨a1, a2, a3, a4, a5, a6, a7, a8⟩ := H
  refine ⟨(z h t0).1.trans a1, ((z h t0).2.2 0).trans a2, ((z h t0).2.2 1).trans a3, (z _ t1).1.trans a4, (z _ t1).2.1.trans a5, (z _ t2).1.trans a6, (z _ t2).2.1.trans a7, fun f hf => ?_⟩
  obtain ⟨b1, b2, b3, b4⟩ := a8 f hf
  exact ⟨((z _ t1).2.2 f).trans b1, ((z _ t2).2.2 f).trans b2, xCo_z z (t4 _ (by omega) (by omega)) (t4 _ (by omega) (by omega)) (t4 _ (by omega) (by omega)) (t4 _ (by omega) (by omega)) b3, xFr_z z (t4 _ (by omega) (by omega)) (t4 _ (by omega) (by omega)) (t4 _ (by omega) (by omega)) b4⟩
theorem xMo_z {T : Nat → Prop} {u w : xv_M} (z : zS T u w) {M : Nat} (t4 : ∀ b, M ≤ b → b < M + 30 → T b) (H : xMo u M) : xMo w M := by
  obtain ⟨a1, a2⟩ := H
  refine ⟨(z M (t4 _ (by omega) (by omega))).1.trans a1, fun j hj => ?_⟩
  obtain ⟨b1, b2, b3⟩ := a2 j hj
  exact ⟨((z M (t4 _ (by omega) (by omega))).2.2 j).trans b1, (z _ (t4 _ (by omega) (by omega))).1.trans b2, (z _ (t4 _ (by omega) (by omega))).2.1.trans b3⟩
theorem xCk_z {T : Nat → Prop} {u w : xv_M} (z : zS T u w) {h a b : Nat} (t0 : T h) (t1 : T a) (t2 : T b) (H : xv_Ck u h a b) : xv_Ck w h a b := by
  obtain ⟨a1, a2, a3, a4, a5, a6, a7, a8⟩ := H
  exact ⟨(z h t0).1.trans a1, ((z h t0).2.2 0).trans a2, ((z h t0).2.2 1).trans a3, (z _ t1).1.trans a4, (z _ t1).2.1.trans a5, (z _ t2).1.trans a6, (z _ t2).2.1.trans a7, a8⟩
/-- all but the compiler, the check and the row of the entries -/
def yT8 (M N : Nat) (b : Nat) : Prop := b < M + 31 ∧ ¬ b = N + 88 ∧ ¬ (N + 90 ≤ b ∧ b ≤ N + 93)
theorem yCl_fr {u w : xv_M} {h N M : Nat} {E E' : Nat → Nat} (z : zS (yT8 M N) u w) (hk : xv_k w (N + 88) = xv_k u (N + 88)) (hck : xv_Ck w (N + 91) (N + 92) (N + 93)) (hea : xv_k w (N + 90) = xv_k u (N + 90) ∧ xv_l w (N + 90) = xv_l u (N + 90)) (hE : yEp N E') (hr : ∀ e, e < 8 → xv_r w (N + 90) e = some (E' e)) (hn : M + 31 ≤ xv_N w) (H : yCl u h N M E) : yCl w h N M E' := by
  obtain ⟨⟨a1, a2, a3, a4⟩, ⟨b1, b2, b3, b4⟩, c1, c2, c3, c4, c5, c6⟩ := H
  have t : ∀ b, b < M + 31 → b < N + 88 ∨ b = N + 89 ∨ N + 94 ≤ b → yT8 M N b := fun b h1 h2 => by unfold yT8; omega
  refine ⟨⟨?_, xFo_z z (t _ (by omega) (by omega)) (t _ (by omega) (by omega)) (t _ (by omega) (by omega)) (t _ (by omega) (by omega)) a2, xIn_z z (t _ (by omega) (by omega)) (t _ (by omega) (by omega)) (t _ (by omega) (by omega)) (t _ (by omega) (by omega)) (fun b h1 h2 => t _ (by omega) (by omega)) a3, hk.trans a4⟩, ⟨?_, hck, ⟨hr, fun j hj => xEn_z z (fun b h1 h2 => t _ (by omega) (by omega)) (b3.2 j hj)⟩, xIm_z z (t _ (by omega) (by omega)) (t _ (by omega) (by omega)) (t _ (by omega) (by omega)) (fun b h1 h2 => t _ (by omega) (by omega)) b4⟩, xMo_z z (fun b h1 h2 => t _ (by omega) (by omega)) c1, ⟨(z _ (t _ (by omega) (by omega))).1.trans c2.1, (z _ (t _ (by omega) (by omega))).2.1.trans c2.2⟩, hE, hn, c5, c6⟩
  · obtain ⟨d1, d2, d3, d4, d5, d6⟩ := a1
    have zh := z h (t _ (by omega) (by omega))
    exact ⟨zh.1.trans d1, (zh.2.2 0).trans d2, (zh.2.2 1).trans d3, (zh.2.2 2).trans d4, (zh.2.2 3).trans d5, (zh.2.2 4).trans d6⟩
  · obtain ⟨d1, d2, d3, d4, d5⟩ := b1
    have zh := z (N + 89) (t _ (by omega) (by omega))
    exact ⟨zh.1.trans d1, (zh.2.2 0).trans d2, (zh.2.2 5).trans d3, hea.1.trans d4, hea.2.trans d5⟩
theorem yCl_Es {u : xv_M} {h N M : Nat} {E : Nat → Nat} (H : yCl u h N M E) : xv_Es u (N + 90) E := by
  obtain ⟨-, ⟨-, -, b3, -⟩, -, -, hE, -, -, -⟩ := H
  intro e he
  obtain ⟨j, hj, ej⟩ := hE.1 e he
  refine ⟨b3.1 e he, ?_⟩
  rw [ej]
  exact b3.2 j hj
/-- where no reference changes -/
theorem yCl_si {u w : xv_M} {h N M : Nat} {E : Nat → Nat} (z : zS (fun b => b < M + 31) u w) (hn : M + 31 ≤ xv_N w) (H : yCl u h N M E) : yCl w h N M E := by
  have H0 := H
  obtain ⟨⟨a1, a2, a3, a4⟩, ⟨b1, b2, b3, b4⟩, c1, c2, c3, c4, c5, c6⟩ := H
  exact yCl_fr (fun b hb => z b hb.1) (z _ (by omega)).1 (xCk_z z (by omega) (by omega) (by omega) b2) ⟨(z _ (by omega)).1, (z _ (by omega)).2.1⟩ c3 (fun e he => ((z _ (by omega)).2.2 e).trans (b3.1 e he)) hn H0
theorem zS_si {S : Nat → Prop} {u w : xv_M} {T : Nat → Prop} (z : xSi S u w) : zS T u w := fun b _ => ⟨congrFun z.2.2.1 b, congrFun z.2.2.2.1 b, fun q => congrFun (congrFun z.2.2.2.2.1 b) q⟩
theorem zS_tr {u v w : xv_M} {T : Nat → Prop} (a : zS T u v) (b : zS T v w) : zS T u w := fun x hx => ⟨(b x hx).1.trans (a x hx).1, (b x hx).2.1.trans (a x hx).2.1, fun q => ((b x hx).2.2 q).trans ((a x hx).2.2 q)⟩
theorem zS_nw {u : xv_M} {K k n s : Nat} (h : K ≤ xv_N u) : zS (fun b => b < K) u (xv_nw u k n s) := by
  intro b hb
  have e : ¬ b = xv_N u := by omega
  exact ⟨if_neg e, if_neg e, fun q => if_neg e⟩
theorem zEq_si {S : Nat → Prop} {Z : Nat → Nat → Prop} {u w : xv_M} (z : xSi S u w) (h : ∀ b q, Z b q → ¬ S b) : zEq Z u w := fun b q hb => congrFun (z.2.2.2.2.2.2 b (h b q hb)) q
theorem zEq_tr {u v w : xv_M} {Z : Nat → Nat → Prop} (a : zEq Z u v) (b : zEq Z v w) : zEq Z u w := fun x q hx => (b x q hx).trans (a x q hx)
theorem zEq_1 {Z : Nat → Nat → Prop} {u : xv_M} {a j : Nat} {x : Int32} (h : ¬ Z a j) : zEq Z u (xv_si u a j x) := by
  intro b q hb
  show (if b = a ∧ q = j then x else xv_i u b q) = _
  rw [if_neg (fun e => h (by rw [← e.1, ← e.2]; exact hb))]
theorem zEq_w {Z : Nat → Nat → Prop} {u : xv_M} {a : Nat} {f : Nat → Int32} (h : ∀ q, ¬ Z a q) : zEq Z u (xv_sw u a f) := by
  intro b q hb
  show (if b = a then f q else xv_i u b q) = _
  rw [if_neg (fun e => h q (by rw [← e]; exact hb))]
theorem zEq_nw {Z : Nat → Nat → Prop} {u : xv_M} {k n s : Nat} (h : ∀ b q, Z b q → b < xv_N u) : zEq Z u (xv_nw u k n s) := by
  intro b q hb
  have := h b q hb
  exact if_neg (by omega)
theorem zEq_rf {Z : Nat → Nat → Prop} {u : xv_M} : zEq Z u u := fun _ _ _ => rfl
theorem zS_1 {u : xv_M} {a j : Nat} {x : Int32} {T : Nat → Prop} : zS T u (xv_si u a j x) := fun _ _ => ⟨rfl, rfl, fun _ => rfl⟩
theorem zS_w {u : xv_M} {a : Nat} {f : Nat → Int32} {T : Nat → Prop} : zS T u (xv_sw u a f) := fun _ _ => ⟨rfl, rfl, fun _ => rfl⟩
theorem zS_rf {u : xv_M} {T : Nat → Prop} : zS T u u := fun _ _ => ⟨rfl, rfl, fun _ => rfl⟩
/-- nothing that is tied has changed -/
theorem yTi_same {u w : xv_M} {h N M : Nat} (z : zS (fun b => b < M + 31) u w) (hn : M + 31 ≤ xv_N w) (e : ∀ b q, zD N M b q ∨ zF N M b q ∨ zA N M b q ∨ zI N M b q ∨ zK h M b q → xv_i w b q = xv_i u b q) (H : yTi u h N M) : yTi w h N M := by
  obtain ⟨E, a1, a2, a3, a4, a5, a6⟩ := H
  exact ⟨E, yCl_si z hn a1, yD_fr (fun b q hb => e b q (Or.inl hb)) a2, yF_fr (fun b q hb => e b q (Or.inr (Or.inl hb))) a3, yA_fr a1.2.2.2.2.1 (fun b q hb => e b q (Or.inr (Or.inr (Or.inl hb)))) a4, yI_fr (fun b q hb => e b q (Or.inr (Or.inr (Or.inr (Or.inl hb))))) a5, yK_fr (fun b q hb => e b q (Or.inr (Or.inr (Or.inr (Or.inr hb))))) a6⟩

