theorem zz_t1 : ((vx_atS RX7 200 "java/lang/IndexOutOfBoundsException" ["java/lang/RuntimeException", "java/lang/Exception"]).filter (fun w => !goodWord w)) = [] := by decide +kernel
