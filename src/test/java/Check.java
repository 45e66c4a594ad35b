/** Counts and prints the answers that are not as due. */
final class Check {
    interface Call {
        long answer();
    }

    private int wrong = 0;
    private String topic = "";

    void topic(String name) {
        topic = name;
    }

    void due(String call, long got, long want) {
        if (got != want) {
            tell(call + " answered " + got + ", due is " + want);
        }
    }

    void dueShare(String call, double got, double want) {
        due(call, Double.doubleToRawLongBits(got), Double.doubleToRawLongBits(want));
    }

    void refuses(String call, Class<? extends RuntimeException> due, Call made) {
        try {
            tell(call + " answered " + made.answer() + ", due is " + due.getSimpleName());
        } catch (RuntimeException thrown) {
            if (thrown.getClass() != due) {
                tell(call + " threw " + thrown + ", due is " + due.getSimpleName());
            }
        }
    }

    void tell(String words) {
        wrong++;
        System.out.println(topic + ": " + words);
    }

    void end() {
        System.out.println(wrong == 0 ? "all answers are as due" : wrong + " answers are not as due");
        if (wrong != 0) {
            System.exit(1);
        }
    }
}
