section
-- A TRY
def tq_bits (n m : Nat) : Nat → Nat := Nat.rec (motive := fun _ => Nat → Nat) (fun s => s) (fun _ ih s => ih (Nat.xor (Nat.shiftRight s 1) (Nat.land s m))) n
set_option maxRecDepth 100000 in
theorem tq_t0 : Nat.ble (tq_bits 2000 (2 ^ 1048576 / 3) (2 ^ 1048576 / 7)) (2 ^ 1048577) = true := by decide +kernel
set_option maxRecDepth 100000 in
theorem tq_t1 : Nat.ble (tq_bits 2000 (2 ^ 1048576 / 3) (2 ^ 1048576 / 9)) (2 ^ 1048577) = true := by decide +kernel
set_option maxRecDepth 100000 in
theorem tq_t2 : Nat.ble (tq_bits 2000 (2 ^ 1048576 / 3) (2 ^ 1048576 / 11)) (2 ^ 1048577) = true := by decide +kernel
set_option maxRecDepth 100000 in
theorem tq_t3 : Nat.ble (tq_bits 2000 (2 ^ 1048576 / 3) (2 ^ 1048576 / 13)) (2 ^ 1048577) = true := by decide +kernel
set_option maxRecDepth 100000 in
theorem tq_t4 : Nat.ble (tq_bits 2000 (2 ^ 1048576 / 3) (2 ^ 1048576 / 15)) (2 ^ 1048577) = true := by decide +kernel
set_option maxRecDepth 100000 in
theorem tq_t5 : Nat.ble (tq_bits 2000 (2 ^ 1048576 / 3) (2 ^ 1048576 / 17)) (2 ^ 1048577) = true := by decide +kernel
set_option maxRecDepth 100000 in
theorem tq_t6 : Nat.ble (tq_bits 2000 (2 ^ 1048576 / 3) (2 ^ 1048576 / 19)) (2 ^ 1048577) = true := by decide +kernel
set_option maxRecDepth 100000 in
theorem tq_t7 : Nat.ble (tq_bits 2000 (2 ^ 1048576 / 3) (2 ^ 1048576 / 21)) (2 ^ 1048577) = true := by decide +kernel
set_option maxRecDepth 100000 in
theorem tq_t8 : Nat.ble (tq_bits 2000 (2 ^ 1048576 / 3) (2 ^ 1048576 / 23)) (2 ^ 1048577) = true := by decide +kernel
set_option maxRecDepth 100000 in
theorem tq_t9 : Nat.ble (tq_bits 2000 (2 ^ 1048576 / 3) (2 ^ 1048576 / 25)) (2 ^ 1048577) = true := by decide +kernel
set_option maxRecDepth 100000 in
theorem tq_t10 : Nat.ble (tq_bits 2000 (2 ^ 1048576 / 3) (2 ^ 1048576 / 27)) (2 ^ 1048577) = true := by decide +kernel
set_option maxRecDepth 100000 in
theorem tq_t11 : Nat.ble (tq_bits 2000 (2 ^ 1048576 / 3) (2 ^ 1048576 / 29)) (2 ^ 1048577) = true := by decide +kernel
set_option maxRecDepth 100000 in
theorem tq_t12 : Nat.ble (tq_bits 2000 (2 ^ 1048576 / 3) (2 ^ 1048576 / 31)) (2 ^ 1048577) = true := by decide +kernel
set_option maxRecDepth 100000 in
theorem tq_t13 : Nat.ble (tq_bits 2000 (2 ^ 1048576 / 3) (2 ^ 1048576 / 33)) (2 ^ 1048577) = true := by decide +kernel
set_option maxRecDepth 100000 in
theorem tq_t14 : Nat.ble (tq_bits 2000 (2 ^ 1048576 / 3) (2 ^ 1048576 / 35)) (2 ^ 1048577) = true := by decide +kernel
set_option maxRecDepth 100000 in
theorem tq_t15 : Nat.ble (tq_bits 2000 (2 ^ 1048576 / 3) (2 ^ 1048576 / 37)) (2 ^ 1048577) = true := by decide +kernel
set_option maxRecDepth 100000 in
theorem tq_t16 : Nat.ble (tq_bits 2000 (2 ^ 1048576 / 3) (2 ^ 1048576 / 39)) (2 ^ 1048577) = true := by decide +kernel
set_option maxRecDepth 100000 in
theorem tq_t17 : Nat.ble (tq_bits 2000 (2 ^ 1048576 / 3) (2 ^ 1048576 / 41)) (2 ^ 1048577) = true := by decide +kernel
set_option maxRecDepth 100000 in
theorem tq_t18 : Nat.ble (tq_bits 2000 (2 ^ 1048576 / 3) (2 ^ 1048576 / 43)) (2 ^ 1048577) = true := by decide +kernel
set_option maxRecDepth 100000 in
theorem tq_t19 : Nat.ble (tq_bits 2000 (2 ^ 1048576 / 3) (2 ^ 1048576 / 45)) (2 ^ 1048577) = true := by decide +kernel
set_option maxRecDepth 100000 in
theorem tq_t20 : Nat.ble (tq_bits 2000 (2 ^ 1048576 / 3) (2 ^ 1048576 / 47)) (2 ^ 1048577) = true := by decide +kernel
set_option maxRecDepth 100000 in
theorem tq_t21 : Nat.ble (tq_bits 2000 (2 ^ 1048576 / 3) (2 ^ 1048576 / 49)) (2 ^ 1048577) = true := by decide +kernel
set_option maxRecDepth 100000 in
theorem tq_t22 : Nat.ble (tq_bits 2000 (2 ^ 1048576 / 3) (2 ^ 1048576 / 51)) (2 ^ 1048577) = true := by decide +kernel
set_option maxRecDepth 100000 in
theorem tq_t23 : Nat.ble (tq_bits 2000 (2 ^ 1048576 / 3) (2 ^ 1048576 / 53)) (2 ^ 1048577) = true := by decide +kernel
set_option maxRecDepth 100000 in
theorem tq_t24 : Nat.ble (tq_bits 2000 (2 ^ 1048576 / 3) (2 ^ 1048576 / 55)) (2 ^ 1048577) = true := by decide +kernel
set_option maxRecDepth 100000 in
theorem tq_t25 : Nat.ble (tq_bits 2000 (2 ^ 1048576 / 3) (2 ^ 1048576 / 57)) (2 ^ 1048577) = true := by decide +kernel
set_option maxRecDepth 100000 in
theorem tq_t26 : Nat.ble (tq_bits 2000 (2 ^ 1048576 / 3) (2 ^ 1048576 / 59)) (2 ^ 1048577) = true := by decide +kernel
set_option maxRecDepth 100000 in
theorem tq_t27 : Nat.ble (tq_bits 2000 (2 ^ 1048576 / 3) (2 ^ 1048576 / 61)) (2 ^ 1048577) = true := by decide +kernel
set_option maxRecDepth 100000 in
theorem tq_t28 : Nat.ble (tq_bits 2000 (2 ^ 1048576 / 3) (2 ^ 1048576 / 63)) (2 ^ 1048577) = true := by decide +kernel
set_option maxRecDepth 100000 in
theorem tq_t29 : Nat.ble (tq_bits 2000 (2 ^ 1048576 / 3) (2 ^ 1048576 / 65)) (2 ^ 1048577) = true := by decide +kernel
set_option maxRecDepth 100000 in
theorem tq_t30 : Nat.ble (tq_bits 2000 (2 ^ 1048576 / 3) (2 ^ 1048576 / 67)) (2 ^ 1048577) = true := by decide +kernel
set_option maxRecDepth 100000 in
theorem tq_t31 : Nat.ble (tq_bits 2000 (2 ^ 1048576 / 3) (2 ^ 1048576 / 69)) (2 ^ 1048577) = true := by decide +kernel
set_option maxRecDepth 100000 in
theorem tq_t32 : Nat.ble (tq_bits 2000 (2 ^ 1048576 / 3) (2 ^ 1048576 / 71)) (2 ^ 1048577) = true := by decide +kernel
set_option maxRecDepth 100000 in
theorem tq_t33 : Nat.ble (tq_bits 2000 (2 ^ 1048576 / 3) (2 ^ 1048576 / 73)) (2 ^ 1048577) = true := by decide +kernel
set_option maxRecDepth 100000 in
theorem tq_t34 : Nat.ble (tq_bits 2000 (2 ^ 1048576 / 3) (2 ^ 1048576 / 75)) (2 ^ 1048577) = true := by decide +kernel
set_option maxRecDepth 100000 in
theorem tq_t35 : Nat.ble (tq_bits 2000 (2 ^ 1048576 / 3) (2 ^ 1048576 / 77)) (2 ^ 1048577) = true := by decide +kernel
set_option maxRecDepth 100000 in
theorem tq_t36 : Nat.ble (tq_bits 2000 (2 ^ 1048576 / 3) (2 ^ 1048576 / 79)) (2 ^ 1048577) = true := by decide +kernel
set_option maxRecDepth 100000 in
theorem tq_t37 : Nat.ble (tq_bits 2000 (2 ^ 1048576 / 3) (2 ^ 1048576 / 81)) (2 ^ 1048577) = true := by decide +kernel
set_option maxRecDepth 100000 in
theorem tq_t38 : Nat.ble (tq_bits 2000 (2 ^ 1048576 / 3) (2 ^ 1048576 / 83)) (2 ^ 1048577) = true := by decide +kernel
set_option maxRecDepth 100000 in
theorem tq_t39 : Nat.ble (tq_bits 2000 (2 ^ 1048576 / 3) (2 ^ 1048576 / 85)) (2 ^ 1048577) = true := by decide +kernel
end
