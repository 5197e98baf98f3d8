/-! the class in the machine: a Land at l, a DeedCourt at B (written by tools/shapes2.py) -/
def oLand0 (h : zMem) (l : Nat) : Prop := kd h l = 4 ∧ gR h l 0 = some (l + 1) ∧ gR h l 2 = some (l + 12) ∧ gR h l 4 = some (l + 37) ∧ gR h l 5 = some (l + 38) ∧ gR h l 6 = some (l + 41) ∧ gR h l 7 = some (l + 43) ∧ gR h l 8 = some (l + 52) ∧ gR h l 9 = some (l + 53) ∧ kd h (l + 1) = 25 ∧ ln h (l + 1) = 10 ∧ kd h (l + 12) = 26
def oLand1 (h : zMem) (l : Nat) : Prop := ln h (l + 12) = 24 ∧ kd h (l + 37) = 20 ∧ ln h (l + 37) = 4 ∧ kd h (l + 39) = 20 ∧ ln h (l + 39) = 100 ∧ kd h (l + 40) = 20 ∧ ln h (l + 40) = 100 ∧ kd h (l + 42) = 20 ∧ ln h (l + 42) = 64 ∧ kd h (l + 52) = 20 ∧ ln h (l + 52) = 10 ∧ kd h (l + 53) = 20
def oLand2 (h : zMem) (l : Nat) : Prop := ln h (l + 53) = 10 ∧ kd h (l + 38) = 5 ∧ gR h (l + 38) 1 = some (l + 39) ∧ gR h (l + 38) 2 = some (l + 40) ∧ kd h (l + 41) = 1 ∧ gR h (l + 41) 1 = some (l + 42)
def oLand (h : zMem) (l : Nat) : Prop := oLand0 h l ∧ oLand1 h l ∧ oLand2 h l ∧ (∀ j : Nat, j < 10 → gR h (l + 1) j = some (l + 2 + j) ∧ kd h (l + 2 + j) = 3) ∧ (∀ j : Nat, j < 24 → gR h (l + 12) j = some (l + 13 + j) ∧ kd h (l + 13 + j) = 2)
section ZoLand
variable {h : zMem} {l : Nat}
theorem la_k (o : oLand h l) : kd h l = 4 := o.1.1
theorem la_r_0 (o : oLand h l) : gR h l 0 = some (l + 1) := o.1.2.1
theorem la_r_2 (o : oLand h l) : gR h l 2 = some (l + 12) := o.1.2.2.1
theorem la_r_4 (o : oLand h l) : gR h l 4 = some (l + 37) := o.1.2.2.2.1
theorem la_r_5 (o : oLand h l) : gR h l 5 = some (l + 38) := o.1.2.2.2.2.1
theorem la_r_6 (o : oLand h l) : gR h l 6 = some (l + 41) := o.1.2.2.2.2.2.1
theorem la_r_7 (o : oLand h l) : gR h l 7 = some (l + 43) := o.1.2.2.2.2.2.2.1
theorem la_r_8 (o : oLand h l) : gR h l 8 = some (l + 52) := o.1.2.2.2.2.2.2.2.1
theorem la_r_9 (o : oLand h l) : gR h l 9 = some (l + 53) := o.1.2.2.2.2.2.2.2.2.1
theorem la_k1 (o : oLand h l) : kd h (l + 1) = 25 := o.1.2.2.2.2.2.2.2.2.2.1
theorem la_l1 (o : oLand h l) : ln h (l + 1) = 10 := o.1.2.2.2.2.2.2.2.2.2.2.1
theorem la_k12 (o : oLand h l) : kd h (l + 12) = 26 := o.1.2.2.2.2.2.2.2.2.2.2.2
theorem la_l12 (o : oLand h l) : ln h (l + 12) = 24 := o.2.1.1
theorem la_k37 (o : oLand h l) : kd h (l + 37) = 20 := o.2.1.2.1
theorem la_l37 (o : oLand h l) : ln h (l + 37) = 4 := o.2.1.2.2.1
theorem la_k39 (o : oLand h l) : kd h (l + 39) = 20 := o.2.1.2.2.2.1
theorem la_l39 (o : oLand h l) : ln h (l + 39) = 100 := o.2.1.2.2.2.2.1
theorem la_k40 (o : oLand h l) : kd h (l + 40) = 20 := o.2.1.2.2.2.2.2.1
theorem la_l40 (o : oLand h l) : ln h (l + 40) = 100 := o.2.1.2.2.2.2.2.2.1
theorem la_k42 (o : oLand h l) : kd h (l + 42) = 20 := o.2.1.2.2.2.2.2.2.2.1
theorem la_l42 (o : oLand h l) : ln h (l + 42) = 64 := o.2.1.2.2.2.2.2.2.2.2.1
theorem la_k52 (o : oLand h l) : kd h (l + 52) = 20 := o.2.1.2.2.2.2.2.2.2.2.2.1
theorem la_l52 (o : oLand h l) : ln h (l + 52) = 10 := o.2.1.2.2.2.2.2.2.2.2.2.2.1
theorem la_k53 (o : oLand h l) : kd h (l + 53) = 20 := o.2.1.2.2.2.2.2.2.2.2.2.2.2
theorem la_l53 (o : oLand h l) : ln h (l + 53) = 10 := o.2.2.1.1
theorem la_k38 (o : oLand h l) : kd h (l + 38) = 5 := o.2.2.1.2.1
theorem la_r38_1 (o : oLand h l) : gR h (l + 38) 1 = some (l + 39) := o.2.2.1.2.2.1
theorem la_r38_2 (o : oLand h l) : gR h (l + 38) 2 = some (l + 40) := o.2.2.1.2.2.2.1
theorem la_k41 (o : oLand h l) : kd h (l + 41) = 1 := o.2.2.1.2.2.2.2.1
theorem la_r41_1 (o : oLand h l) : gR h (l + 41) 1 = some (l + 42) := o.2.2.1.2.2.2.2.2
theorem la_f (o : oLand h l) {j : Nat} (hj : j < 10) : gR h (l + 1) j = some (l + 2 + j) := (o.2.2.2.1 j hj).1
theorem la_fk (o : oLand h l) {j : Nat} (hj : j < 10) : kd h (l + 2 + j) = 3 := (o.2.2.2.1 j hj).2
theorem la_d (o : oLand h l) {j : Nat} (hj : j < 24) : gR h (l + 12) j = some (l + 13 + j) := (o.2.2.2.2 j hj).1
theorem la_dk (o : oLand h l) {j : Nat} (hj : j < 24) : kd h (l + 13 + j) = 2 := (o.2.2.2.2 j hj).2
theorem sam.la {lo hi : Nat} {h' : zMem} (s : sam lo hi h h') (o : oLand h l) : oLand h' l := by
  obtain ⟨s1, s2, s3, -⟩ := s
  unfold oLand oLand0 oLand1 oLand2 at *
  simp only [s1, s2, s3]
  exact o
end ZoLand
def oDC0 (h : zMem) (B : Nat) : Prop := kd h B = 12 ∧ gR h B 0 = some (B + 1) ∧ gR h B 1 = some (B + 18) ∧ gR h B 2 = some (B + 23) ∧ gR h B 3 = some (B + 77) ∧ gR h B 5 = some (B + 131) ∧ gR h B 6 = some (B + 20) ∧ gR h B 7 = some (B + 132) ∧ gR h B 8 = some (B + 141) ∧ gR h B 9 = some (B + 144) ∧ kd h (B + 1) = 24 ∧ ln h (B + 1) = 8
def oDC1 (h : zMem) (B : Nat) : Prop := kd h (B + 19) = 22 ∧ ln h (B + 19) = 80 ∧ kd h (B + 21) = 20 ∧ ln h (B + 21) = 256 ∧ kd h (B + 22) = 20 ∧ ln h (B + 22) = 1024 ∧ kd h (B + 131) = 20 ∧ ln h (B + 131) = 5 ∧ kd h (B + 142) = 20 ∧ ln h (B + 142) = 8 ∧ kd h (B + 143) = 23 ∧ ln h (B + 143) = 256
def oDC2 (h : zMem) (B : Nat) : Prop := kd h (B + 144) = 20 ∧ ln h (B + 144) = 48 ∧ kd h (B + 18) = 10 ∧ gR h (B + 18) 1 = some (B + 19) ∧ kd h (B + 20) = 11 ∧ gR h (B + 20) 0 = some (B + 21) ∧ gR h (B + 20) 1 = some (B + 22) ∧ kd h (B + 141) = 6 ∧ gR h (B + 141) 5 = some (B + 142) ∧ gR h (B + 141) 6 = some (B + 143)
def oDC (h : zMem) (B : Nat) : Prop := oDC0 h B ∧ oDC1 h B ∧ oDC2 h B ∧ (∀ j : Nat, j < 8 → gR h (B + 1) j = some (B + 2 + 2 * j) ∧ kd h (B + 2 + 2 * j) = 9 ∧ gR h (B + 2 + 2 * j) 3 = some (B + 3 + 2 * j) ∧ kd h (B + 3 + 2 * j) = 21 ∧ ln h (B + 3 + 2 * j) = 64)
section ZoDC
variable {h : zMem} {B : Nat}
theorem dc_k (o : oDC h B) : kd h B = 12 := o.1.1
theorem dc_r0 (o : oDC h B) : gR h B 0 = some (B + 1) := o.1.2.1
theorem dc_r1 (o : oDC h B) : gR h B 1 = some (B + 18) := o.1.2.2.1
theorem dc_r2 (o : oDC h B) : gR h B 2 = some (B + 23) := o.1.2.2.2.1
theorem dc_r3 (o : oDC h B) : gR h B 3 = some (B + 77) := o.1.2.2.2.2.1
theorem dc_r5 (o : oDC h B) : gR h B 5 = some (B + 131) := o.1.2.2.2.2.2.1
theorem dc_r6 (o : oDC h B) : gR h B 6 = some (B + 20) := o.1.2.2.2.2.2.2.1
theorem dc_r7 (o : oDC h B) : gR h B 7 = some (B + 132) := o.1.2.2.2.2.2.2.2.1
theorem dc_r8 (o : oDC h B) : gR h B 8 = some (B + 141) := o.1.2.2.2.2.2.2.2.2.1
theorem dc_r9 (o : oDC h B) : gR h B 9 = some (B + 144) := o.1.2.2.2.2.2.2.2.2.2.1
theorem dc_k1 (o : oDC h B) : kd h (B + 1) = 24 := o.1.2.2.2.2.2.2.2.2.2.2.1
theorem dc_l1 (o : oDC h B) : ln h (B + 1) = 8 := o.1.2.2.2.2.2.2.2.2.2.2.2
theorem dc_k19 (o : oDC h B) : kd h (B + 19) = 22 := o.2.1.1
theorem dc_l19 (o : oDC h B) : ln h (B + 19) = 80 := o.2.1.2.1
theorem dc_k21 (o : oDC h B) : kd h (B + 21) = 20 := o.2.1.2.2.1
theorem dc_l21 (o : oDC h B) : ln h (B + 21) = 256 := o.2.1.2.2.2.1
theorem dc_k22 (o : oDC h B) : kd h (B + 22) = 20 := o.2.1.2.2.2.2.1
theorem dc_l22 (o : oDC h B) : ln h (B + 22) = 1024 := o.2.1.2.2.2.2.2.1
theorem dc_k131 (o : oDC h B) : kd h (B + 131) = 20 := o.2.1.2.2.2.2.2.2.1
theorem dc_l131 (o : oDC h B) : ln h (B + 131) = 5 := o.2.1.2.2.2.2.2.2.2.1
theorem dc_k142 (o : oDC h B) : kd h (B + 142) = 20 := o.2.1.2.2.2.2.2.2.2.2.1
theorem dc_l142 (o : oDC h B) : ln h (B + 142) = 8 := o.2.1.2.2.2.2.2.2.2.2.2.1
theorem dc_k143 (o : oDC h B) : kd h (B + 143) = 23 := o.2.1.2.2.2.2.2.2.2.2.2.2.1
theorem dc_l143 (o : oDC h B) : ln h (B + 143) = 256 := o.2.1.2.2.2.2.2.2.2.2.2.2.2
theorem dc_k144 (o : oDC h B) : kd h (B + 144) = 20 := o.2.2.1.1
theorem dc_l144 (o : oDC h B) : ln h (B + 144) = 48 := o.2.2.1.2.1
theorem dc_k18 (o : oDC h B) : kd h (B + 18) = 10 := o.2.2.1.2.2.1
theorem dc_r18 (o : oDC h B) : gR h (B + 18) 1 = some (B + 19) := o.2.2.1.2.2.2.1
theorem dc_k20 (o : oDC h B) : kd h (B + 20) = 11 := o.2.2.1.2.2.2.2.1
theorem dc_r20_0 (o : oDC h B) : gR h (B + 20) 0 = some (B + 21) := o.2.2.1.2.2.2.2.2.1
theorem dc_r20_1 (o : oDC h B) : gR h (B + 20) 1 = some (B + 22) := o.2.2.1.2.2.2.2.2.2.1
theorem dc_k141 (o : oDC h B) : kd h (B + 141) = 6 := o.2.2.1.2.2.2.2.2.2.2.1
theorem dc_r141_5 (o : oDC h B) : gR h (B + 141) 5 = some (B + 142) := o.2.2.1.2.2.2.2.2.2.2.2.1
theorem dc_r141_6 (o : oDC h B) : gR h (B + 141) 6 = some (B + 143) := o.2.2.1.2.2.2.2.2.2.2.2.2
theorem dc_s (o : oDC h B) {j : Nat} (hj : j < 8) : gR h (B + 1) j = some (B + 2 + 2 * j) := (o.2.2.2 j hj).1
theorem dc_sk (o : oDC h B) {j : Nat} (hj : j < 8) : kd h (B + 2 + 2 * j) = 9 := (o.2.2.2 j hj).2.1
theorem dc_sr (o : oDC h B) {j : Nat} (hj : j < 8) : gR h (B + 2 + 2 * j) 3 = some (B + 3 + 2 * j) := (o.2.2.2 j hj).2.2.1
theorem dc_ek (o : oDC h B) {j : Nat} (hj : j < 8) : kd h (B + 3 + 2 * j) = 21 := (o.2.2.2 j hj).2.2.2.1
theorem dc_el (o : oDC h B) {j : Nat} (hj : j < 8) : ln h (B + 3 + 2 * j) = 64 := (o.2.2.2 j hj).2.2.2.2
theorem sam.dc {lo hi : Nat} {h' : zMem} (s : sam lo hi h h') (o : oDC h B) : oDC h' B := by
  obtain ⟨s1, s2, s3, -⟩ := s
  unfold oDC oDC0 oDC1 oDC2 at *
  simp only [s1, s2, s3]
  exact o
end ZoDC
