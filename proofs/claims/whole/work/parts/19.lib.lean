/-! what is read after what is written -/
section ZLB
variable {g : Nat → Nat} {h : zMem} {a b k j n w K : Nat} {v : Int32} {x : Int64} {r : Option Nat} {sp dp : Nat}
theorem y_kd_sI : kd (sI h a k v) j = kd h j := rfl
theorem y_kd_sL : kd (sL h a k x) j = kd h j := rfl
theorem y_kd_sR : kd (sR h a k r) j = kd h j := rfl
theorem y_kd_cpI : kd (cpI h a sp b dp n) j = kd h j := rfl
theorem y_kd_cpL : kd (cpL h a sp b dp n) j = kd h j := rfl
theorem y_ln_sI : ln (sI h a k v) j = ln h j := rfl
theorem y_ln_sL : ln (sL h a k x) j = ln h j := rfl
theorem y_ln_sR : ln (sR h a k r) j = ln h j := rfl
theorem y_ln_cpI : ln (cpI h a sp b dp n) j = ln h j := rfl
theorem y_ln_cpL : ln (cpL h a sp b dp n) j = ln h j := rfl
theorem y_sz_sI : sz (sI h a k v) = sz h := rfl
theorem y_sz_sL : sz (sL h a k x) = sz h := rfl
theorem y_sz_sR : sz (sR h a k r) = sz h := rfl
theorem y_sz_cpI : sz (cpI h a sp b dp n) = sz h := rfl
theorem y_sz_cpL : sz (cpL h a sp b dp n) = sz h := rfl
theorem y_sl_sI : sl (sI h a k v) = sl h := rfl
theorem y_sl_sL : sl (sL h a k x) = sl h := rfl
theorem y_sl_sR : sl (sR h a k r) = sl h := rfl
theorem y_sl_cpI : sl (cpI h a sp b dp n) = sl h := rfl
theorem y_sl_cpL : sl (cpL h a sp b dp n) = sl h := rfl
theorem y_gI_sI : gI (sI h a k v) b j = if b = a ∧ j = k then v else gI h b j := rfl
theorem y_gI_sL : gI (sL h a k x) b j = gI h b j := rfl
theorem y_gI_sR : gI (sR h a k r) b j = gI h b j := rfl
theorem y_gI_cpI : gI (cpI h a sp b dp n) K j = if K = b ∧ dp ≤ j ∧ j < dp + n then gI h a (sp + (j - dp)) else gI h K j := rfl
theorem y_gI_cpL : gI (cpL h a sp b dp n) K j = gI h K j := rfl
theorem y_gI_nw : gI (nw h k n w) b j = if b = sz h then 0 else gI h b j := rfl
theorem y_gL_sI : gL (sI h a k v) b j = gL h b j := rfl
theorem y_gL_sL : gL (sL h a k x) b j = if b = a ∧ j = k then x else gL h b j := rfl
theorem y_gL_sR : gL (sR h a k r) b j = gL h b j := rfl
theorem y_gL_cpI : gL (cpI h a sp b dp n) K j = gL h K j := rfl
theorem y_gL_cpL : gL (cpL h a sp b dp n) K j = if K = b ∧ dp ≤ j ∧ j < dp + n then gL h a (sp + (j - dp)) else gL h K j := rfl
theorem y_gL_nw : gL (nw h k n w) b j = if b = sz h then 0 else gL h b j := rfl
theorem y_gR_sI : gR (sI h a k v) b j = gR h b j := rfl
theorem y_gR_sL : gR (sL h a k x) b j = gR h b j := rfl
theorem y_gR_sR : gR (sR h a k r) b j = if b = a ∧ j = k then r else gR h b j := rfl
theorem y_gR_cpI : gR (cpI h a sp b dp n) K j = gR h K j := rfl
theorem y_gR_cpL : gR (cpL h a sp b dp n) K j = gR h K j := rfl
theorem y_gR_nw : gR (nw h k n w) b j = if b = sz h then none else gR h b j := rfl
theorem y_kd_nw : kd (nw h k n w) b = if b = sz h then k else kd h b := rfl
theorem y_ln_nw : ln (nw h k n w) b = if b = sz h then n else ln h b := rfl
theorem y_sz_nw : sz (nw h k n w) = sz h + 1 := rfl
theorem y_sl_nw : sl (nw h k n w) = sl h + w := rfl
theorem y_fx_int : fx (.int v) = .int v := rfl
theorem y_fx_long : fx (.long x) = zU := rfl
theorem y_fx_ref : fx (.ref a) = .ref a := rfl
theorem y_fx_null : fx .null = .null := rfl
theorem y_fx_U : fx zU = zU := rfl
theorem y_rf_s : va_rf (some a) = .ref a := rfl
theorem y_rf_n : va_rf none = .null := rfl
end ZLB
