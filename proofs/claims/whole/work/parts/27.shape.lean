/-! the reference in the machine: an object of it at m, its arrays behind it (written by tools/shapes.py) -/
def oMo0 (h : zMem) (m : Nat) : Prop := kd h m = 13 ∧ gR h m 0 = some (m + 1) ∧ kd h (m + 1) = 20 ∧ ln h (m + 1) = 8 ∧ gR h m 1 = some (m + 2) ∧ kd h (m + 2) = 20 ∧ ln h (m + 2) = 8 ∧ gR h m 2 = some (m + 3) ∧ kd h (m + 3) = 20 ∧ ln h (m + 3) = 8 ∧ gR h m 3 = some (m + 4) ∧ kd h (m + 4) = 28
def oMo1 (h : zMem) (m : Nat) : Prop := ln h (m + 4) = 8 ∧ gR h m 4 = some (m + 13) ∧ kd h (m + 13) = 20 ∧ ln h (m + 13) = 8 ∧ gR h m 5 = some (m + 14) ∧ kd h (m + 14) = 21 ∧ ln h (m + 14) = 64 ∧ gR h m 6 = some (m + 15) ∧ kd h (m + 15) = 20 ∧ ln h (m + 15) = 80 ∧ gR h m 8 = some (m + 16) ∧ kd h (m + 16) = 20
def oMo2 (h : zMem) (m : Nat) : Prop := ln h (m + 16) = 8 ∧ gR h m 10 = some (m + 17) ∧ kd h (m + 17) = 20 ∧ ln h (m + 17) = 10 ∧ gR h m 11 = some (m + 18) ∧ kd h (m + 18) = 20 ∧ ln h (m + 18) = 10 ∧ gR h m 12 = some (m + 19) ∧ kd h (m + 19) = 20 ∧ ln h (m + 19) = 10 ∧ gR h m 13 = some (m + 20) ∧ kd h (m + 20) = 20
def oMo3 (h : zMem) (m : Nat) : Prop := ln h (m + 20) = 10 ∧ gR h m 14 = some (m + 21) ∧ kd h (m + 21) = 21 ∧ ln h (m + 21) = 10 ∧ gR h m 16 = some (m + 22) ∧ kd h (m + 22) = 20 ∧ ln h (m + 22) = 24 ∧ gR h m 17 = some (m + 23) ∧ kd h (m + 23) = 20 ∧ ln h (m + 23) = 24 ∧ gR h m 18 = some (m + 24) ∧ kd h (m + 24) = 20
def oMo4 (h : zMem) (m : Nat) : Prop := ln h (m + 24) = 24 ∧ gR h m 19 = some (m + 25) ∧ kd h (m + 25) = 20 ∧ ln h (m + 25) = 24 ∧ gR h m 20 = some (m + 26) ∧ kd h (m + 26) = 20 ∧ ln h (m + 26) = 24 ∧ gR h m 21 = some (m + 27) ∧ kd h (m + 27) = 20 ∧ ln h (m + 27) = 24 ∧ gR h m 22 = some (m + 28) ∧ kd h (m + 28) = 20
def oMo5 (h : zMem) (m : Nat) : Prop := ln h (m + 28) = 24 ∧ gR h m 23 = some (m + 29) ∧ kd h (m + 29) = 20 ∧ ln h (m + 29) = 24 ∧ gR h m 24 = some (m + 30) ∧ kd h (m + 30) = 20 ∧ ln h (m + 30) = 24 ∧ gR h m 25 = some (m + 31) ∧ kd h (m + 31) = 20 ∧ ln h (m + 31) = 4 ∧ gR h m 26 = some (m + 32) ∧ kd h (m + 32) = 20
def oMo6 (h : zMem) (m : Nat) : Prop := ln h (m + 32) = 64 ∧ gR h m 29 = some (m + 33) ∧ kd h (m + 33) = 20 ∧ ln h (m + 33) = 100 ∧ gR h m 30 = some (m + 34) ∧ kd h (m + 34) = 20 ∧ ln h (m + 34) = 100 ∧ gR h m 36 = some (m + 35) ∧ kd h (m + 35) = 29 ∧ ln h (m + 35) = 46 ∧ gR h m 37 = some (m + 82) ∧ kd h (m + 82) = 20
def oMo7 (h : zMem) (m : Nat) : Prop := ln h (m + 82) = 45 ∧ gR h m 49 = some (m + 83) ∧ kd h (m + 83) = 27 ∧ ln h (m + 83) = 8 ∧ gR h m 50 = some (m + 84) ∧ kd h (m + 84) = 27 ∧ ln h (m + 84) = 3 ∧ gR h m 51 = some (m + 85) ∧ kd h (m + 85) = 20 ∧ ln h (m + 85) = 2048 ∧ gR h m 56 = some (m + 86) ∧ kd h (m + 86) = 20
def oMo8 (h : zMem) (m : Nat) : Prop := ln h (m + 86) = 8 ∧ gR h m 62 = some (m + 87) ∧ kd h (m + 87) = 20 ∧ ln h (m + 87) = 256 ∧ gR h m 63 = some (m + 88) ∧ kd h (m + 88) = 20 ∧ ln h (m + 88) = 48 ∧ gR h m 66 = some (m + 89) ∧ kd h (m + 89) = 20 ∧ ln h (m + 89) = 10
def oMo (h : zMem) (m : Nat) : Prop := oMo0 h m ∧ oMo1 h m ∧ oMo2 h m ∧ oMo3 h m ∧ oMo4 h m ∧ oMo5 h m ∧ oMo6 h m ∧ oMo7 h m ∧ oMo8 h m ∧ (∀ j : Nat, j < 8 → gR h (m + 4) j = some (m + 5 + j) ∧ kd h (m + 5 + j) = 21 ∧ ln h (m + 5 + j) = 64) ∧ (∀ j : Nat, j < 46 → gR h (m + 35) j = some (m + 36 + j) ∧ kd h (m + 36 + j) = 20 ∧ ln h (m + 36 + j) = 100)
section ZMO
variable {h : zMem} {m : Nat}
theorem mo_k (o : oMo h m) : kd h m = 13 := o.1.1
theorem mo_r0 (o : oMo h m) : gR h m 0 = some (m + 1) := o.1.2.1
theorem mo_k0 (o : oMo h m) : kd h (m + 1) = 20 := o.1.2.2.1
theorem mo_l0 (o : oMo h m) : ln h (m + 1) = 8 := o.1.2.2.2.1
theorem mo_r1 (o : oMo h m) : gR h m 1 = some (m + 2) := o.1.2.2.2.2.1
theorem mo_k1 (o : oMo h m) : kd h (m + 2) = 20 := o.1.2.2.2.2.2.1
theorem mo_l1 (o : oMo h m) : ln h (m + 2) = 8 := o.1.2.2.2.2.2.2.1
theorem mo_r2 (o : oMo h m) : gR h m 2 = some (m + 3) := o.1.2.2.2.2.2.2.2.1
theorem mo_k2 (o : oMo h m) : kd h (m + 3) = 20 := o.1.2.2.2.2.2.2.2.2.1
theorem mo_l2 (o : oMo h m) : ln h (m + 3) = 8 := o.1.2.2.2.2.2.2.2.2.2.1
theorem mo_r3 (o : oMo h m) : gR h m 3 = some (m + 4) := o.1.2.2.2.2.2.2.2.2.2.2.1
theorem mo_k3 (o : oMo h m) : kd h (m + 4) = 28 := o.1.2.2.2.2.2.2.2.2.2.2.2
theorem mo_l3 (o : oMo h m) : ln h (m + 4) = 8 := o.2.1.1
theorem mo_r4 (o : oMo h m) : gR h m 4 = some (m + 13) := o.2.1.2.1
theorem mo_k4 (o : oMo h m) : kd h (m + 13) = 20 := o.2.1.2.2.1
theorem mo_l4 (o : oMo h m) : ln h (m + 13) = 8 := o.2.1.2.2.2.1
theorem mo_r5 (o : oMo h m) : gR h m 5 = some (m + 14) := o.2.1.2.2.2.2.1
theorem mo_k5 (o : oMo h m) : kd h (m + 14) = 21 := o.2.1.2.2.2.2.2.1
theorem mo_l5 (o : oMo h m) : ln h (m + 14) = 64 := o.2.1.2.2.2.2.2.2.1
theorem mo_r6 (o : oMo h m) : gR h m 6 = some (m + 15) := o.2.1.2.2.2.2.2.2.2.1
theorem mo_k6 (o : oMo h m) : kd h (m + 15) = 20 := o.2.1.2.2.2.2.2.2.2.2.1
theorem mo_l6 (o : oMo h m) : ln h (m + 15) = 80 := o.2.1.2.2.2.2.2.2.2.2.2.1
theorem mo_r8 (o : oMo h m) : gR h m 8 = some (m + 16) := o.2.1.2.2.2.2.2.2.2.2.2.2.1
theorem mo_k8 (o : oMo h m) : kd h (m + 16) = 20 := o.2.1.2.2.2.2.2.2.2.2.2.2.2
theorem mo_l8 (o : oMo h m) : ln h (m + 16) = 8 := o.2.2.1.1
theorem mo_r10 (o : oMo h m) : gR h m 10 = some (m + 17) := o.2.2.1.2.1
theorem mo_k10 (o : oMo h m) : kd h (m + 17) = 20 := o.2.2.1.2.2.1
theorem mo_l10 (o : oMo h m) : ln h (m + 17) = 10 := o.2.2.1.2.2.2.1
theorem mo_r11 (o : oMo h m) : gR h m 11 = some (m + 18) := o.2.2.1.2.2.2.2.1
theorem mo_k11 (o : oMo h m) : kd h (m + 18) = 20 := o.2.2.1.2.2.2.2.2.1
theorem mo_l11 (o : oMo h m) : ln h (m + 18) = 10 := o.2.2.1.2.2.2.2.2.2.1
theorem mo_r12 (o : oMo h m) : gR h m 12 = some (m + 19) := o.2.2.1.2.2.2.2.2.2.2.1
theorem mo_k12 (o : oMo h m) : kd h (m + 19) = 20 := o.2.2.1.2.2.2.2.2.2.2.2.1
theorem mo_l12 (o : oMo h m) : ln h (m + 19) = 10 := o.2.2.1.2.2.2.2.2.2.2.2.2.1
theorem mo_r13 (o : oMo h m) : gR h m 13 = some (m + 20) := o.2.2.1.2.2.2.2.2.2.2.2.2.2.1
theorem mo_k13 (o : oMo h m) : kd h (m + 20) = 20 := o.2.2.1.2.2.2.2.2.2.2.2.2.2.2
theorem mo_l13 (o : oMo h m) : ln h (m + 20) = 10 := o.2.2.2.1.1
theorem mo_r14 (o : oMo h m) : gR h m 14 = some (m + 21) := o.2.2.2.1.2.1
theorem mo_k14 (o : oMo h m) : kd h (m + 21) = 21 := o.2.2.2.1.2.2.1
theorem mo_l14 (o : oMo h m) : ln h (m + 21) = 10 := o.2.2.2.1.2.2.2.1
theorem mo_r16 (o : oMo h m) : gR h m 16 = some (m + 22) := o.2.2.2.1.2.2.2.2.1
theorem mo_k16 (o : oMo h m) : kd h (m + 22) = 20 := o.2.2.2.1.2.2.2.2.2.1
theorem mo_l16 (o : oMo h m) : ln h (m + 22) = 24 := o.2.2.2.1.2.2.2.2.2.2.1
theorem mo_r17 (o : oMo h m) : gR h m 17 = some (m + 23) := o.2.2.2.1.2.2.2.2.2.2.2.1
theorem mo_k17 (o : oMo h m) : kd h (m + 23) = 20 := o.2.2.2.1.2.2.2.2.2.2.2.2.1
theorem mo_l17 (o : oMo h m) : ln h (m + 23) = 24 := o.2.2.2.1.2.2.2.2.2.2.2.2.2.1
theorem mo_r18 (o : oMo h m) : gR h m 18 = some (m + 24) := o.2.2.2.1.2.2.2.2.2.2.2.2.2.2.1
theorem mo_k18 (o : oMo h m) : kd h (m + 24) = 20 := o.2.2.2.1.2.2.2.2.2.2.2.2.2.2.2
theorem mo_l18 (o : oMo h m) : ln h (m + 24) = 24 := o.2.2.2.2.1.1
theorem mo_r19 (o : oMo h m) : gR h m 19 = some (m + 25) := o.2.2.2.2.1.2.1
theorem mo_k19 (o : oMo h m) : kd h (m + 25) = 20 := o.2.2.2.2.1.2.2.1
theorem mo_l19 (o : oMo h m) : ln h (m + 25) = 24 := o.2.2.2.2.1.2.2.2.1
theorem mo_r20 (o : oMo h m) : gR h m 20 = some (m + 26) := o.2.2.2.2.1.2.2.2.2.1
theorem mo_k20 (o : oMo h m) : kd h (m + 26) = 20 := o.2.2.2.2.1.2.2.2.2.2.1
theorem mo_l20 (o : oMo h m) : ln h (m + 26) = 24 := o.2.2.2.2.1.2.2.2.2.2.2.1
theorem mo_r21 (o : oMo h m) : gR h m 21 = some (m + 27) := o.2.2.2.2.1.2.2.2.2.2.2.2.1
theorem mo_k21 (o : oMo h m) : kd h (m + 27) = 20 := o.2.2.2.2.1.2.2.2.2.2.2.2.2.1
theorem mo_l21 (o : oMo h m) : ln h (m + 27) = 24 := o.2.2.2.2.1.2.2.2.2.2.2.2.2.2.1
theorem mo_r22 (o : oMo h m) : gR h m 22 = some (m + 28) := o.2.2.2.2.1.2.2.2.2.2.2.2.2.2.2.1
theorem mo_k22 (o : oMo h m) : kd h (m + 28) = 20 := o.2.2.2.2.1.2.2.2.2.2.2.2.2.2.2.2
theorem mo_l22 (o : oMo h m) : ln h (m + 28) = 24 := o.2.2.2.2.2.1.1
theorem mo_r23 (o : oMo h m) : gR h m 23 = some (m + 29) := o.2.2.2.2.2.1.2.1
theorem mo_k23 (o : oMo h m) : kd h (m + 29) = 20 := o.2.2.2.2.2.1.2.2.1
theorem mo_l23 (o : oMo h m) : ln h (m + 29) = 24 := o.2.2.2.2.2.1.2.2.2.1
theorem mo_r24 (o : oMo h m) : gR h m 24 = some (m + 30) := o.2.2.2.2.2.1.2.2.2.2.1
theorem mo_k24 (o : oMo h m) : kd h (m + 30) = 20 := o.2.2.2.2.2.1.2.2.2.2.2.1
theorem mo_l24 (o : oMo h m) : ln h (m + 30) = 24 := o.2.2.2.2.2.1.2.2.2.2.2.2.1
theorem mo_r25 (o : oMo h m) : gR h m 25 = some (m + 31) := o.2.2.2.2.2.1.2.2.2.2.2.2.2.1
theorem mo_k25 (o : oMo h m) : kd h (m + 31) = 20 := o.2.2.2.2.2.1.2.2.2.2.2.2.2.2.1
theorem mo_l25 (o : oMo h m) : ln h (m + 31) = 4 := o.2.2.2.2.2.1.2.2.2.2.2.2.2.2.2.1
theorem mo_r26 (o : oMo h m) : gR h m 26 = some (m + 32) := o.2.2.2.2.2.1.2.2.2.2.2.2.2.2.2.2.1
theorem mo_k26 (o : oMo h m) : kd h (m + 32) = 20 := o.2.2.2.2.2.1.2.2.2.2.2.2.2.2.2.2.2
theorem mo_l26 (o : oMo h m) : ln h (m + 32) = 64 := o.2.2.2.2.2.2.1.1
theorem mo_r29 (o : oMo h m) : gR h m 29 = some (m + 33) := o.2.2.2.2.2.2.1.2.1
theorem mo_k29 (o : oMo h m) : kd h (m + 33) = 20 := o.2.2.2.2.2.2.1.2.2.1
theorem mo_l29 (o : oMo h m) : ln h (m + 33) = 100 := o.2.2.2.2.2.2.1.2.2.2.1
theorem mo_r30 (o : oMo h m) : gR h m 30 = some (m + 34) := o.2.2.2.2.2.2.1.2.2.2.2.1
theorem mo_k30 (o : oMo h m) : kd h (m + 34) = 20 := o.2.2.2.2.2.2.1.2.2.2.2.2.1
theorem mo_l30 (o : oMo h m) : ln h (m + 34) = 100 := o.2.2.2.2.2.2.1.2.2.2.2.2.2.1
theorem mo_r36 (o : oMo h m) : gR h m 36 = some (m + 35) := o.2.2.2.2.2.2.1.2.2.2.2.2.2.2.1
theorem mo_k36 (o : oMo h m) : kd h (m + 35) = 29 := o.2.2.2.2.2.2.1.2.2.2.2.2.2.2.2.1
theorem mo_l36 (o : oMo h m) : ln h (m + 35) = 46 := o.2.2.2.2.2.2.1.2.2.2.2.2.2.2.2.2.1
theorem mo_r37 (o : oMo h m) : gR h m 37 = some (m + 82) := o.2.2.2.2.2.2.1.2.2.2.2.2.2.2.2.2.2.1
theorem mo_k37 (o : oMo h m) : kd h (m + 82) = 20 := o.2.2.2.2.2.2.1.2.2.2.2.2.2.2.2.2.2.2
theorem mo_l37 (o : oMo h m) : ln h (m + 82) = 45 := o.2.2.2.2.2.2.2.1.1
theorem mo_r49 (o : oMo h m) : gR h m 49 = some (m + 83) := o.2.2.2.2.2.2.2.1.2.1
theorem mo_k49 (o : oMo h m) : kd h (m + 83) = 27 := o.2.2.2.2.2.2.2.1.2.2.1
theorem mo_l49 (o : oMo h m) : ln h (m + 83) = 8 := o.2.2.2.2.2.2.2.1.2.2.2.1
theorem mo_r50 (o : oMo h m) : gR h m 50 = some (m + 84) := o.2.2.2.2.2.2.2.1.2.2.2.2.1
theorem mo_k50 (o : oMo h m) : kd h (m + 84) = 27 := o.2.2.2.2.2.2.2.1.2.2.2.2.2.1
theorem mo_l50 (o : oMo h m) : ln h (m + 84) = 3 := o.2.2.2.2.2.2.2.1.2.2.2.2.2.2.1
theorem mo_r51 (o : oMo h m) : gR h m 51 = some (m + 85) := o.2.2.2.2.2.2.2.1.2.2.2.2.2.2.2.1
theorem mo_k51 (o : oMo h m) : kd h (m + 85) = 20 := o.2.2.2.2.2.2.2.1.2.2.2.2.2.2.2.2.1
theorem mo_l51 (o : oMo h m) : ln h (m + 85) = 2048 := o.2.2.2.2.2.2.2.1.2.2.2.2.2.2.2.2.2.1
theorem mo_r56 (o : oMo h m) : gR h m 56 = some (m + 86) := o.2.2.2.2.2.2.2.1.2.2.2.2.2.2.2.2.2.2.1
theorem mo_k56 (o : oMo h m) : kd h (m + 86) = 20 := o.2.2.2.2.2.2.2.1.2.2.2.2.2.2.2.2.2.2.2
theorem mo_l56 (o : oMo h m) : ln h (m + 86) = 8 := o.2.2.2.2.2.2.2.2.1.1
theorem mo_r62 (o : oMo h m) : gR h m 62 = some (m + 87) := o.2.2.2.2.2.2.2.2.1.2.1
theorem mo_k62 (o : oMo h m) : kd h (m + 87) = 20 := o.2.2.2.2.2.2.2.2.1.2.2.1
theorem mo_l62 (o : oMo h m) : ln h (m + 87) = 256 := o.2.2.2.2.2.2.2.2.1.2.2.2.1
theorem mo_r63 (o : oMo h m) : gR h m 63 = some (m + 88) := o.2.2.2.2.2.2.2.2.1.2.2.2.2.1
theorem mo_k63 (o : oMo h m) : kd h (m + 88) = 20 := o.2.2.2.2.2.2.2.2.1.2.2.2.2.2.1
theorem mo_l63 (o : oMo h m) : ln h (m + 88) = 48 := o.2.2.2.2.2.2.2.2.1.2.2.2.2.2.2.1
theorem mo_r66 (o : oMo h m) : gR h m 66 = some (m + 89) := o.2.2.2.2.2.2.2.2.1.2.2.2.2.2.2.2.1
theorem mo_k66 (o : oMo h m) : kd h (m + 89) = 20 := o.2.2.2.2.2.2.2.2.1.2.2.2.2.2.2.2.2.1
theorem mo_l66 (o : oMo h m) : ln h (m + 89) = 10 := o.2.2.2.2.2.2.2.2.1.2.2.2.2.2.2.2.2.2
theorem mo_row (o : oMo h m) {j : Nat} (hj : j < 8) : gR h (m + 4) j = some (m + 5 + j) := (o.2.2.2.2.2.2.2.2.2.1 j hj).1
theorem mo_rowk (o : oMo h m) {j : Nat} (hj : j < 8) : kd h (m + 5 + j) = 21 := (o.2.2.2.2.2.2.2.2.2.1 j hj).2.1
theorem mo_rowl (o : oMo h m) {j : Nat} (hj : j < 8) : ln h (m + 5 + j) = 64 := (o.2.2.2.2.2.2.2.2.2.1 j hj).2.2
theorem mo_set (o : oMo h m) {j : Nat} (hj : j < 46) : gR h (m + 35) j = some (m + 36 + j) := (o.2.2.2.2.2.2.2.2.2.2 j hj).1
theorem mo_setk (o : oMo h m) {j : Nat} (hj : j < 46) : kd h (m + 36 + j) = 20 := (o.2.2.2.2.2.2.2.2.2.2 j hj).2.1
theorem mo_setl (o : oMo h m) {j : Nat} (hj : j < 46) : ln h (m + 36 + j) = 100 := (o.2.2.2.2.2.2.2.2.2.2 j hj).2.2
theorem sam.mo {lo hi : Nat} {h' : zMem} (s : sam lo hi h h') (o : oMo h m) : oMo h' m := by
  obtain ⟨s1, s2, s3, -⟩ := s
  unfold oMo oMo0 oMo1 oMo2 oMo3 oMo4 oMo5 oMo6 oMo7 oMo8 at *
  simp only [s1, s2, s3]
  exact o
end ZMO
