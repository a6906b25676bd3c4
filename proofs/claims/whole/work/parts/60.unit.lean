theorem lk_unit {g : fm_g} {d : Nat} {B : Nat → Nat} {e o : Nat} (he : e ≤ 150) (ho : o ≤ 6) (hS : o < 6 → LK g B e (o + 1) (d + 6) false mX5_readSum mX12_readSum [some (.ref (156 : Nat)), some (.ref (1 : Nat)), some (.int (Int32.ofNat (o + 1))), none, none] [some (.ref (432 : Nat)), none]) : LK g B e o (d + 7) false mX5_readUnit mX12_readUnit [some (.ref (156 : Nat)), some (.ref (1 : Nat)), some (.int (Int32.ofNat o)), none, none] [some (.ref (432 : Nat)), none] := by
  intro n p s t h
  by_cases hb : p < e ∧ B p = 40
  · exact u_brk h he ho hb hS
  · cases hw : wix lw37 (runR B p (letR B e p)) with
    | none => exact u_none h he hb hw
    | some j => exact u_word h he hb hw
