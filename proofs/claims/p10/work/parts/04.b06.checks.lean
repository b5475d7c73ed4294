theorem zi_ok243_5 : zi_i243_5.all (zi_okI zi_m243.2.1 zi_m243.2.2.2.2.1 (decide (zi_m243.1.name = "<init>")) zi_m243.2.2.2.1) = true := by decide +kernel
theorem zi_ok243_6 : zi_i243_6.all (zi_okI zi_m243.2.1 zi_m243.2.2.2.2.1 (decide (zi_m243.1.name = "<init>")) zi_m243.2.2.2.1) = true := by decide +kernel
theorem zi_ok243_7 : zi_i243_7.all (zi_okI zi_m243.2.1 zi_m243.2.2.2.2.1 (decide (zi_m243.1.name = "<init>")) zi_m243.2.2.2.1) = true := by decide +kernel
theorem zi_ok243_8 : zi_i243_8.all (zi_okI zi_m243.2.1 zi_m243.2.2.2.2.1 (decide (zi_m243.1.name = "<init>")) zi_m243.2.2.2.1) = true := by decide +kernel
theorem zi_ok243_9 : zi_i243_9.all (zi_okI zi_m243.2.1 zi_m243.2.2.2.2.1 (decide (zi_m243.1.name = "<init>")) zi_m243.2.2.2.1) = true := by decide +kernel
theorem zi_ok243_10 : zi_i243_10.all (zi_okI zi_m243.2.1 zi_m243.2.2.2.2.1 (decide (zi_m243.1.name = "<init>")) zi_m243.2.2.2.1) = true := by decide +kernel
theorem zi_ok243_11 : zi_i243_11.all (zi_okI zi_m243.2.1 zi_m243.2.2.2.2.1 (decide (zi_m243.1.name = "<init>")) zi_m243.2.2.2.1) = true := by decide +kernel
