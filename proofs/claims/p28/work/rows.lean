section
-- A TRY, no part of a proof: bit slices of 2 ^ 23 seeds a number: 1750 rounds of a shift, an and, an xor
def tq_force (x : Nat) (f : Nat → Nat) : Nat := Nat.rec (f 0) (fun n _ => f (n + 1)) x
def tq_bits (n m : Nat) : Nat → Nat := Nat.rec (motive := fun _ => Nat → Nat) (fun s => s) (fun _ ih s => tq_force (Nat.xor (Nat.shiftRight s 1) (Nat.land s m)) (fun t => ih t)) n
set_option maxRecDepth 100000 in
theorem tq_two : Nat.ble (tq_bits 10 (2 ^ 8388608 / 3) (2 ^ 8388608 / 7)) (2 ^ 8388609) = true := by decide +kernel
end
