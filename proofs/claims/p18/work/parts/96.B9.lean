/-! the numbers of a method against its blocks -/
def faB {d : Nat} (ct : TrT Blk d) : Nat → List DB → Prop
  | _, [] => True
  | b, q :: l => tget d ct b = dnB 0 q ∧ faB ct (b + 1) l
theorem fa_of {d : Nat} {ct : TrT Blk d} : ∀ {l : List DB} {s : Nat}, faB ct s l → ∀ b q, yat l b = some q → tget d ct (s + b) = dnB 0 q := by
  intro l
  induction l with
  | nil => intro s _ b q h; cases h
  | cons a l ih =>
    intro s hf b q h
    obtain ⟨h1, h2⟩ := hf
    cases b with
    | zero =>
      have h : some a = some q := h
      cases h
      exact h1
    | succ b =>
      have := ih h2 b q h
      rw [show s + (b + 1) = s + 1 + b by omega]
      exact this
theorem md_of {bo : Bo9} {y n d : Nat} {l : List DB} {ct : TrT Blk d} {bo' : Call → Env9 → Nat → List AV → Mem → OR} (h : bo y = bo') (hb : ∀ (call : Call) (E : Env9) (m : Nat) (as : List AV) (M : Mem), bo' call E m as M = gd (Nat.ble (flatL as).length n) (runF call d ct 1000000000000 0 E m 0 (iniL n as) [] M)) (hf : faB ct 0 l) (hs : List (Nat × An)) : MDOK bo y (n, l, hs) :=
  ⟨d, ct, fun b q hq => by have := fa_of hf b q hq; rwa [Nat.zero_add] at this, fun call E m as M => by rw [h]; exact hb call E m as M⟩
