/** What the tests share: they print every answer that is not due and end with exit code 1 then. */
final class Check {
    interface Call {
        long answer();
    }

    private static int wrong = 0;
    private static int seen = 0;

    private Check() {
    }

    static void same(String what, long got, long due) {
        seen++;
        if (got != due) {
            wrong++;
            System.out.println(what + " answered " + got + ", due is " + due);
        }
    }

    static void holds(String what, boolean got) {
        same(what, got ? 1 : 0, 1);
    }

    /** What a call answers; for an exception the name of exactly its class, so that one of the machine shows. */
    static String tell(Call call) {
        try {
            return Long.toString(call.answer());
        } catch (RuntimeException thrown) {
            return "throws." + thrown.getClass().getSimpleName();
        }
    }

    static void told(String what, String got, String due) {
        seen++;
        if (!got.equals(due)) {
            wrong++;
            System.out.println(what + " answered " + got + ", due is " + due);
        }
    }

    /** The call must throw just this exception and leave the checksum as it was. */
    static void refuses(String what, MailSync sync, Class<?> due, Call call) {
        long before = sync.checksum();
        told(what, tell(call), "throws." + due.getSimpleName());
        same(what + " changed the checksum; it", sync.checksum(), before);
    }

    static int wrongOnes() {
        return wrong;
    }

    static void end() {
        if (seen == 0) {
            System.out.println("nothing was checked");
        } else {
            System.out.println(wrong == 0 ? seen + " answers are as due" : wrong + " answers are not as due");
        }
        if (wrong != 0 || seen == 0) {
            System.exit(1);
        }
    }
}
