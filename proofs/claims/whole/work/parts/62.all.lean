/-! ===== every step of the law's loop keeps the relation ===== -/
theorem all_st (g : G0) : AllSt g INV :=
  ⟨fun i t I => INV_agr I agr_refl, t0 g, t1 g, t2 g, t3 g, t4 g, t5 g, t6 g, t7 g, t8 g, t9 g, t10 g, t11 g, t12 g, t13 g, t14 g, t15 g, t16 g, t17 g, t18 g, t19 g, t20 g, t21 g, t22 g, t23 g, t24 g, t25 g, t26 g, t27 g, t28 g, t29 g, t30 g, t31 g, t32 g, t33 g, t34 g, t35 g⟩
