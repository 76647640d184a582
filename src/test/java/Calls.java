import java.lang.reflect.InvocationTargetException;
import java.lang.reflect.Method;
import java.util.NoSuchElementException;

/** Calls written as a text, each with the answer that is due: "propose(0)=1 order(0,0)=throws down(9)=false". */
final class Calls {
    private Calls() { }

    static void due(LeaderlessOrder x, String calls) {
        for (String call : calls.trim().split("\\s+")) {
            int cut = call.indexOf(")=") + 1;
            String got = answer(x, call.substring(0, cut));
            String want = call.substring(cut + 1);
            boolean isDue = got.equals(want.equals("NONE") ? "-1" : want);
            Check.due(call + ", got " + got, isDue, true);
        }
    }

    /** A new object with a GROUP, behind some calls. */
    static LeaderlessOrder made(String group, String calls) {
        LeaderlessOrder x = Check.made(group);
        due(x, calls);
        return x;
    }

    /** What one call answers, as a text. */
    static String answer(LeaderlessOrder x, String call) {
        int open = call.indexOf('(');
        String inner = call.substring(open + 1, call.length() - 1);
        String[] words = inner.isEmpty() ? new String[0] : inner.split(",");
        for (Method m : LeaderlessOrder.class.getMethods()) {
            if (m.getName().equals(call.substring(0, open)) && m.getParameterCount() == words.length) {
                return invoke(x, m, words);
            }
        }
        return "no such method";
    }

    private static String invoke(LeaderlessOrder x, Method m, String[] words) {
        Object[] values = new Object[words.length];
        for (int i = 0; i < words.length; i++) {
            values[i] = value(m.getParameterTypes()[i], words[i]);
        }
        try {
            return String.valueOf(m.invoke(x, values));
        } catch (InvocationTargetException e) {
            boolean isDue = e.getCause() != null && e.getCause().getClass() == NoSuchElementException.class;
            return isDue ? "throws" : "throws " + e.getCause();
        } catch (IllegalAccessException e) {
            return "no access";
        }
    }

    private static Object value(Class<?> type, String word) {
        if (type == boolean.class) {
            return Boolean.valueOf(word);
        }
        long number = word.equals("MIN") ? Integer.MIN_VALUE : word.equals("MAX") ? Integer.MAX_VALUE
                : Long.parseLong(word);
        return type == long.class ? (Object) number : (Object) (int) number;
    }

    /** All that can be asked of how it is, but what can be undone and what is on the TAPE. */
    static String all(LeaderlessOrder x) {
        StringBuilder s = new StringBuilder();
        for (int what = 0; what < 8; what++) {
            s.append(x.count(what)).append(' ');
        }
        for (int c = 0; c < x.count(2); c++) {
            for (int what = 0; what < 8; what++) {
                s.append(x.command(c, what)).append(' ');
            }
        }
        for (int r = 0; r < x.count(0); r++) {
            s.append("| ").append(x.replica(r, 0)).append(' ').append(Check.order(x, r)).append(' ');
            for (int k = 0; k < x.count(1); k++) {
                s.append(x.value(r, k)).append(' ');
            }
            for (int c = 0; c < x.count(2); c++) {
                for (int what = 0; what < 4; what++) {
                    s.append(x.known(r, c, what)).append(' ');
                }
                s.append(x.got(r, c)).append(", ");
            }
        }
        return s.append(x.who()).append(' ').append(x.judged(0)).append(' ').append(x.judged(2)).toString();
    }
}
