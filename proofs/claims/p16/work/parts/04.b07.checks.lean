theorem zi_ok243_52 : zi_i243_52.all (zi_okI zi_m243.2.1 zi_m243.2.2.2.2.1 (decide (zi_m243.1.name = "<init>")) zi_m243.2.2.2.1) = true := zi_okPA (by decide +kernel)
theorem zi_ok243_53 : zi_i243_53.all (zi_okI zi_m243.2.1 zi_m243.2.2.2.2.1 (decide (zi_m243.1.name = "<init>")) zi_m243.2.2.2.1) = true := zi_okPA (by decide +kernel)
theorem zi_ok243_54 : zi_i243_54.all (zi_okI zi_m243.2.1 zi_m243.2.2.2.2.1 (decide (zi_m243.1.name = "<init>")) zi_m243.2.2.2.1) = true := zi_okPA (by decide +kernel)
theorem zi_ok243_55 : zi_i243_55.all (zi_okI zi_m243.2.1 zi_m243.2.2.2.2.1 (decide (zi_m243.1.name = "<init>")) zi_m243.2.2.2.1) = true := zi_okPA (by decide +kernel)
