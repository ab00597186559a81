/-! ===== what a method that may throw is given beside its world ===== -/
def qm_Z (A : Nat → Prop) (U : State) : Prop :=
  vx_Zq Bundle.tN "UNASSIGNED_STACK" Bundle.steD A U U.heap ∧
  vx_Zq Bundle.tN "SUPPRESSED_SENTINEL" Bundle.listD A U U.heap ∧
  (∃ a, vk_R RX6 135 "no such counter" a U) ∧
  (∃ a, vk_R RX6 140 "an argument is out of range" a U) ∧
  (∃ a, vk_R RX0 47 "the counter would have too many numbers" a U) ∧
  (∃ a, vk_R RX6 65 "both counters are the same" a U) ∧
  (∃ a, vk_R RX6 138 "no such mark" a U) ∧
  (∃ a, vk_R RX0 52 "the counter has no numbers" a U) ∧
  va_Nw (.fieldLinkNest RX6 48 RX0 "row" "LQueueMiddles$MarkRow;" RX6) U ∧
  va_Nw (.fieldLinkNest RX6 24 RX0 "numbers" "LQueueMiddles$Tally;" RX6) U ∧
  va_Nw (.fieldLinkNest RX6 124 RX0 "halves" "LQueueMiddles$Halves;" RX6) U ∧
  va_Nw (.fieldLinkNest RX6 74 RX0 "thousandths" "I" RX6) U ∧
  va_Nw (.castable "java/lang/IndexOutOfBoundsException" "java/lang/IndexOutOfBoundsException") U ∧
  va_Nw (.castable "java/lang/IllegalArgumentException" "java/lang/IllegalArgumentException") U ∧
  va_Nw (.castable "java/lang/IllegalStateException" "java/lang/IllegalStateException") U ∧
  va_Nw (.declares (Bundle.initS "java/lang/RuntimeException")) U ∧
  va_Nw (.declares (Bundle.initS "java/lang/Exception")) U ∧
  va_Nw (.declares (Bundle.initS "java/lang/Throwable")) U ∧
  va_Nc "java/lang/IllegalArgumentException" "java/lang/IndexOutOfBoundsException" U ∧
  va_Nc "java/lang/IllegalStateException" "java/lang/IndexOutOfBoundsException" U ∧
  va_Nc "java/lang/IllegalStateException" "java/lang/IllegalArgumentException" U
theorem qz_u {A : Nat → Prop} {s : State} (h : qm_Z A s) : vx_Zq Bundle.tN "UNASSIGNED_STACK" Bundle.steD A s s.heap := h.1
theorem qz_n {A : Nat → Prop} {s : State} (h : qm_Z A s) : vx_Zq Bundle.tN "SUPPRESSED_SENTINEL" Bundle.listD A s s.heap := h.2.1
theorem qz_s0 {A : Nat → Prop} {s : State} (h : qm_Z A s) : (∃ a, vk_R RX6 135 "no such counter" a s) := h.2.2.1
theorem qz_s1 {A : Nat → Prop} {s : State} (h : qm_Z A s) : (∃ a, vk_R RX6 140 "an argument is out of range" a s) := h.2.2.2.1
theorem qz_s2 {A : Nat → Prop} {s : State} (h : qm_Z A s) : (∃ a, vk_R RX0 47 "the counter would have too many numbers" a s) := h.2.2.2.2.1
theorem qz_s3 {A : Nat → Prop} {s : State} (h : qm_Z A s) : (∃ a, vk_R RX6 65 "both counters are the same" a s) := h.2.2.2.2.2.1
theorem qz_s4 {A : Nat → Prop} {s : State} (h : qm_Z A s) : (∃ a, vk_R RX6 138 "no such mark" a s) := h.2.2.2.2.2.2.1
theorem qz_s5 {A : Nat → Prop} {s : State} (h : qm_Z A s) : (∃ a, vk_R RX0 52 "the counter has no numbers" a s) := h.2.2.2.2.2.2.2.1
theorem qz_frow {A : Nat → Prop} {s : State} (h : qm_Z A s) : va_Nw (.fieldLinkNest RX6 48 RX0 "row" "LQueueMiddles$MarkRow;" RX6) s := h.2.2.2.2.2.2.2.2.1
theorem qz_fnumbers {A : Nat → Prop} {s : State} (h : qm_Z A s) : va_Nw (.fieldLinkNest RX6 24 RX0 "numbers" "LQueueMiddles$Tally;" RX6) s := h.2.2.2.2.2.2.2.2.2.1
theorem qz_fhalves {A : Nat → Prop} {s : State} (h : qm_Z A s) : va_Nw (.fieldLinkNest RX6 124 RX0 "halves" "LQueueMiddles$Halves;" RX6) s := h.2.2.2.2.2.2.2.2.2.2.1
theorem qz_fthousandths {A : Nat → Prop} {s : State} (h : qm_Z A s) : va_Nw (.fieldLinkNest RX6 74 RX0 "thousandths" "I" RX6) s := h.2.2.2.2.2.2.2.2.2.2.2.1
theorem qz_c0 {A : Nat → Prop} {s : State} (h : qm_Z A s) : va_Nw (.castable "java/lang/IndexOutOfBoundsException" "java/lang/IndexOutOfBoundsException") s := h.2.2.2.2.2.2.2.2.2.2.2.2.1
theorem qz_c1 {A : Nat → Prop} {s : State} (h : qm_Z A s) : va_Nw (.castable "java/lang/IllegalArgumentException" "java/lang/IllegalArgumentException") s := h.2.2.2.2.2.2.2.2.2.2.2.2.2.1
theorem qz_c2 {A : Nat → Prop} {s : State} (h : qm_Z A s) : va_Nw (.castable "java/lang/IllegalStateException" "java/lang/IllegalStateException") s := h.2.2.2.2.2.2.2.2.2.2.2.2.2.2.1
theorem qz_d0 {A : Nat → Prop} {s : State} (h : qm_Z A s) : va_Nw (.declares (Bundle.initS "java/lang/RuntimeException")) s := h.2.2.2.2.2.2.2.2.2.2.2.2.2.2.2.1
theorem qz_d1 {A : Nat → Prop} {s : State} (h : qm_Z A s) : va_Nw (.declares (Bundle.initS "java/lang/Exception")) s := h.2.2.2.2.2.2.2.2.2.2.2.2.2.2.2.2.1
theorem qz_d2 {A : Nat → Prop} {s : State} (h : qm_Z A s) : va_Nw (.declares (Bundle.initS "java/lang/Throwable")) s := h.2.2.2.2.2.2.2.2.2.2.2.2.2.2.2.2.2.1
theorem qz_x0 {A : Nat → Prop} {s : State} (h : qm_Z A s) : va_Nc "java/lang/IllegalArgumentException" "java/lang/IndexOutOfBoundsException" s := h.2.2.2.2.2.2.2.2.2.2.2.2.2.2.2.2.2.2.1
theorem qz_x1 {A : Nat → Prop} {s : State} (h : qm_Z A s) : va_Nc "java/lang/IllegalStateException" "java/lang/IndexOutOfBoundsException" s := h.2.2.2.2.2.2.2.2.2.2.2.2.2.2.2.2.2.2.2.1
theorem qz_x2 {A : Nat → Prop} {s : State} (h : qm_Z A s) : va_Nc "java/lang/IllegalStateException" "java/lang/IllegalArgumentException" s := h.2.2.2.2.2.2.2.2.2.2.2.2.2.2.2.2.2.2.2.2
theorem qm_Zgo {A : Nat → Prop} {s U : State} {H : Heap} {locs : List Loc} (h : qm_Z A s) (hS : va_S A s.heap H locs) (hU : U.heap = H) (hW : s.WarmedH U.vm) : qm_Z A U := by
  subst hU
  exact ⟨(h.1.kept hS.2.1).moved hW.alike, (h.2.1.kept hS.2.1).moved hW.alike, h.2.2.1.imp (fun _ q => q.warm hW), h.2.2.2.1.imp (fun _ q => q.warm hW), h.2.2.2.2.1.imp (fun _ q => q.warm hW), h.2.2.2.2.2.1.imp (fun _ q => q.warm hW), h.2.2.2.2.2.2.1.imp (fun _ q => q.warm hW), h.2.2.2.2.2.2.2.1.imp (fun _ q => q.warm hW), va_Nw.warmF hW h.2.2.2.2.2.2.2.2.1, va_Nw.warmF hW h.2.2.2.2.2.2.2.2.2.1, va_Nw.warmF hW h.2.2.2.2.2.2.2.2.2.2.1, va_Nw.warmF hW h.2.2.2.2.2.2.2.2.2.2.2.1, va_Nw.warmC hW h.2.2.2.2.2.2.2.2.2.2.2.2.1, va_Nw.warmC hW h.2.2.2.2.2.2.2.2.2.2.2.2.2.1, va_Nw.warmC hW h.2.2.2.2.2.2.2.2.2.2.2.2.2.2.1, va_Nw.warmD hW h.2.2.2.2.2.2.2.2.2.2.2.2.2.2.2.1, va_Nw.warmD hW h.2.2.2.2.2.2.2.2.2.2.2.2.2.2.2.2.1, va_Nw.warmD hW h.2.2.2.2.2.2.2.2.2.2.2.2.2.2.2.2.2.1, va_Nc.moved hW.alike h.2.2.2.2.2.2.2.2.2.2.2.2.2.2.2.2.2.2.1, va_Nc.moved hW.alike h.2.2.2.2.2.2.2.2.2.2.2.2.2.2.2.2.2.2.2.1, va_Nc.moved hW.alike h.2.2.2.2.2.2.2.2.2.2.2.2.2.2.2.2.2.2.2.2⟩
theorem qm_Zcalling {A : Nat → Prop} {U : State} {g : JFrame} {mk : MethodId} {a : Array Value} (h : qm_Z A U) : qm_Z A (U.calling g mk a) := ⟨h.1.moved (Vm.Alike.refl U.vm), h.2.1.moved (Vm.Alike.refl U.vm), h.2.2.1.imp (fun _ q => q.same rfl), h.2.2.2.1.imp (fun _ q => q.same rfl), h.2.2.2.2.1.imp (fun _ q => q.same rfl), h.2.2.2.2.2.1.imp (fun _ q => q.same rfl), h.2.2.2.2.2.2.1.imp (fun _ q => q.same rfl), h.2.2.2.2.2.2.2.1.imp (fun _ q => q.same rfl), va_Nw.same rfl rfl h.2.2.2.2.2.2.2.2.1, va_Nw.same rfl rfl h.2.2.2.2.2.2.2.2.2.1, va_Nw.same rfl rfl h.2.2.2.2.2.2.2.2.2.2.1, va_Nw.same rfl rfl h.2.2.2.2.2.2.2.2.2.2.2.1, va_Nw.same rfl rfl h.2.2.2.2.2.2.2.2.2.2.2.2.1, va_Nw.same rfl rfl h.2.2.2.2.2.2.2.2.2.2.2.2.2.1, va_Nw.same rfl rfl h.2.2.2.2.2.2.2.2.2.2.2.2.2.2.1, va_Nw.same rfl rfl h.2.2.2.2.2.2.2.2.2.2.2.2.2.2.2.1, va_Nw.same rfl rfl h.2.2.2.2.2.2.2.2.2.2.2.2.2.2.2.2.1, va_Nw.same rfl rfl h.2.2.2.2.2.2.2.2.2.2.2.2.2.2.2.2.2.1, va_Nc.moved (u := U) (U := U.calling g mk a) (Vm.Alike.refl U.vm) h.2.2.2.2.2.2.2.2.2.2.2.2.2.2.2.2.2.2.1, va_Nc.moved (u := U) (U := U.calling g mk a) (Vm.Alike.refl U.vm) h.2.2.2.2.2.2.2.2.2.2.2.2.2.2.2.2.2.2.2.1, va_Nc.moved (u := U) (U := U.calling g mk a) (Vm.Alike.refl U.vm) h.2.2.2.2.2.2.2.2.2.2.2.2.2.2.2.2.2.2.2.2⟩
def qm_BZ (D : va_G) (A : Nat → Prop) (tys : List (ClassId × FieldType)) (w : va_W) (U : State) : Prop := qm_B D A tys w U ∧ qm_Z A U
theorem qm_blindZ {D : va_G} {A : Nat → Prop} {tys : List (ClassId × FieldType)} {w : va_W} {av : List Value} : FrameBlind (va_Pc av (qm_BZ D A tys w)) := by
  intro a U g mk q
  obtain ⟨q0, q1, q2⟩ := q
  exact ⟨q0, (qm_blind (av := av) a U g mk ⟨q0, q1⟩).2, qm_Zcalling q2⟩
def qm_Yi {X : Type} (D : va_G) (A : Nat → Prop) (w : X → va_W) (S : X) (z : Int32 ⊕ String) : Array Value → State → Outcome → State → Prop := va_Qi (fun (v : Int32) (u : X) => z = .inl v ∧ u = S) (fun u t => qm_E D A (w u) t) A
def qm_Ys {X : Type} (D : va_G) (A : Nat → Prop) (w : X → va_W) (z : (Int32 × X) ⊕ String) : Array Value → State → Outcome → State → Prop := va_Qi (fun (v : Int32) (u : X) => z = .inl (v, u)) (fun u t => qm_E D A (w u) t) A
def qm_Yv {X : Type} (D : va_G) (A : Nat → Prop) (w : X → va_W) (S : X) (z : Unit ⊕ String) : Array Value → State → Outcome → State → Prop := va_Qv (fun (u : X) => z = .inl () ∧ u = S) (fun u t => qm_E D A (w u) t) A
def qm_Yr {X : Type} (D : va_G) (A : Nat → Prop) (w : X → va_W) (S : X) (f : Nat → Nat) (z : Nat ⊕ String) : Array Value → State → Outcome → State → Prop := va_Qr (fun (u : X) => u = S) (fun u a t => (∃ i : Nat, z = .inl i ∧ a = f i) ∧ qm_E D A (w u) t) A
def qm_YX (D : va_G) (A : Nat → Prop) (w : va_W) (P : String → Prop) : String → State → State → Prop := vx_X (fun (_ : Unit) => True) (fun E _ t => P E ∧ qm_E D A w t) A
section QxCall
variable {p : Program} {l : Launch} {e : Env} {R : Room} {s : State} {m : MethodId} {args : Array Value} {below : List Frame} {meth : Method} {c : Code} {H : Heap} {locs : List Loc} {cells slots : Nat} {Q : State → Prop}
variable {mc ms : Nat} {free : Addr → Prop} {A0 A1 : Nat → Prop} {H0 : Heap} {a : Array Value} {pc : Nat} {ls : Array Slot} {st0 rest : List Value}
/-- a call that answers a reference, or throws -/
theorem qx_callr {S SX : Type} {post : S → Prop} {px : SX → Prop} {B : S → Nat → State → Prop} {BX : String → SX → State → Prop} {AX : Nat → Prop} (hr : vx_Run p l e R s m args below meth c H locs cells slots mc ms (F0 m pc ls st0) rest (va_Qr post B A1 a) (vx_X px BX AX) free) (hS : va_S A0 H0 H locs) (hA : ∀ q, q < H.size → A1 q → A0 q) (hf : ∀ q, free q → A0 q) (hAX : ∀ q, q < H.size → AX q → A0 q)
    (kx : ∀ (E : String) (ce : Cell) (q9 : Addr) (u : SX) (t : State) (H1 : Heap) (locs1 : List Loc), t.heap = H1 → s.vm.Alike t.vm → px u → BX E u t → H.size ≤ H1.size → (∀ q : Nat, q < H.size → ¬ AX q → H1[q]? = H[q]?) → va_S A0 H0 H1 locs1 → H1[q9]? = some ce → ce.vm = .none → s.vm.findClass E = some ce.cls → vx_W p l e R s m args below meth c H1 locs1 (cells + mc) (slots + ms) Q (F0 m pc ls rest) q9)
    (kk : ∀ (u : S) (ra : Nat) (t : State) (H1 : Heap) (locs1 : List Loc), t.heap = H1 → s.vm.Alike t.vm → post u → B u ra t → H.size ≤ H1.size → (∀ q : Nat, q < H.size → ¬ A1 q → H1[q]? = H[q]?) → va_S A0 H0 H1 locs1 → W p l e R s m args below meth c H1 locs1 (cells + mc) (slots + ms) Q (F0 m (pc + 3) ls (.ref ra :: rest))) : W p l e R s m args below meth c H locs cells slots Q (F0 m pc ls st0) := by
  intro T hT X
  rcases hr T hT X with ⟨v, st₀, t, T', L, h0, X', hL, e1, e2, ⟨⟨u, ra, hv, hp, hb⟩, hF⟩, st⟩ | ⟨q, st₀, t, T', L, E, ce, h0, X', hL, e1, e2, ⟨u, hp, hb, hF⟩, hce, hcv, hcl, st⟩
  · cases hv
    obtain ⟨k1, k2, k3⟩ := vx_keep h0 e1 hS hA hf hL hF
    obtain ⟨t2, a1, b1⟩ := kk u ra t T'.heap (locs ++ L) e1.symm (by rw [← e2]; exact X'.warmed.alike) hp hb k1 k2 k3 T' rfl X'
    exact ⟨t2, st t2 a1, b1⟩
  · obtain ⟨k1, k2, k3⟩ := vx_keep h0 e1 hS hAX hf hL hF
    obtain ⟨t2, a1, b1⟩ := kx E ce q u t T'.heap (locs ++ L) e1.symm (by rw [← e2]; exact X'.warmed.alike) hp hb k1 k2 k3 (by rw [e1]; exact hce) hcv hcl T' rfl X'
    exact ⟨t2, st.trans a1, b1⟩
end QxCall
