import java.util.ArrayList;
import java.util.List;

/**
 * A new object and all calls that were made of it, each as a text like "comes 0 5": so the same calls can be made
 * again of another new object, and two of them compared in all that they show, also behind undo() and back().
 */
final class Tale {
    static final int BAD = -1, STATE = -2, FULL = -3, NONE = -9;

    /** What is asked of an object behind this many calls is not promised. */
    private static final int MOST_CALLS = 512;

    private final Check check;
    private final String says;
    private final Run run = new Run();

    private Tale(Check check, String says) {
        this.check = check;
        this.says = says;
    }

    /** A new object; says is the sentence that it is to show. */
    static Tale fresh(Check check, String says) {
        return new Tale(check, says);
    }

    /** A new object that was told this. */
    static Tale told(Check check, String says, String text) {
        return fresh(check, says).types(text).does("cell");
    }

    /** The answer of this call is due. */
    Tale due(String call, int want) {
        check.due(says + " | " + call + " as call " + run.calls.size(), run.make(call), want);
        return this;
    }

    /** These calls, none of which may be refused. */
    Tale does(String... calls) {
        for (String call : calls) {
            int got = run.make(call);
            check.due(says + " | " + call + " answers " + got + ": not refused", got < 0 ? 1 : 0, 0);
        }
        return this;
    }

    Tale times(int many, String... calls) {
        for (int i = 0; i < many; i++) {
            does(calls);
        }
        return this;
    }

    Tale types(String text) {
        for (int i = 0; i < text.length(); i++) {
            run.make("type " + (int) text.charAt(i));
        }
        return this;
    }

    /** NOW becomes this step. */
    Tale stepsTo(int now) {
        for (int left = now - run.make("count 6"); left > 0; left -= 40) {
            does("steps " + Math.min(40, left));
        }
        return due("count 6", now);
    }

    /** The answers of this call with first, first and 1, .. behind it. */
    Tale row(String call, int first, int... wants) {
        for (int i = 0; i < wants.length; i++) {
            due(call + " " + (first + i), wants[i]);
        }
        return this;
    }

    /** The call answers this, and nothing changes: compared with an object of which it was not asked. */
    Tale refused(String call, int want) {
        List<String> before = new ArrayList<>(run.calls);
        List<String> behind = new ArrayList<>(before);
        behind.add(call);
        check.due(says + " | " + call + " is refused", run.make(call), want);
        same(call + " changes nothing", before, behind);
        return this;
    }

    Tale bad(String... calls) {
        for (String call : calls) {
            refused(call, BAD);
        }
        return this;
    }

    /** This call changes nothing, whatever it answers. */
    Tale changesNothing(String call) {
        List<String> before = new ArrayList<>(run.calls);
        does(call);
        same(call + " changes nothing", before, run.calls);
        return this;
    }

    /** All that is shown is as it is of another one, but for what can be UNDONE and the IMAGES, and SEEN and THE TEXT. */
    Tale isLike(String when, Tale other) {
        for (int look = 0; look < LOOKS_AT_STATE; look++) {
            compare(when, look, other.run.calls, run.calls);
        }
        return this;
    }

    /** Another object of which the same calls were made. */
    Tale twin() {
        Tale twin = new Tale(check, says);
        for (String call : run.calls) {
            twin.run.make(call);
        }
        return twin;
    }

    private void same(String when, List<String> one, List<String> other) {
        for (int look = 0; look < LOOKS; look++) {
            compare(when, look, one, other);
        }
    }

    private void compare(String when, int look, List<String> one, List<String> other) {
        String want = new Run(one).shown(look);
        String got = new Run(other).shown(look);
        boolean like = got.equals(want);
        check.due(says + " | " + when + (like ? "" : " (look " + look + ": " + got + "/ " + want + ")"), like ? 1 : 0, 1);
    }

    // The looks at an object: those at what part 2 of the terms tells, and those at all the rest.
    private static final int DEAF = 4, TRIALS = 7, LOOKS_AT_STATE = 8, UNDO = 10, IMAGE = 19, LOOKS = 21;

    /** An object, with the calls that were made of it. */
    private static final class Run {
        final UpwardGrants x = new UpwardGrants();
        final List<String> calls = new ArrayList<>();

        Run() {
        }

        Run(List<String> calls) {
            for (String call : calls) {
                make(call);
            }
        }

        int make(String call) {
            calls.add(call);
            if (calls.size() > MOST_CALLS) {
                throw new IllegalStateException("more calls than are promised: " + calls);
            }
            String[] words = call.split(" ");
            int a = words.length > 1 ? Integer.parseInt(words[1]) : 0;
            int b = words.length > 2 ? Integer.parseInt(words[2]) : 0;
            int c = words.length > 3 ? Integer.parseInt(words[3]) : 0;
            return switch (words[0]) {
                case "type" -> x.type(a);
                case "clear" -> x.clear();
                case "cell" -> x.cell();
                case "comes" -> x.comes(a, b);
                case "steps" -> x.steps(a);
                case "deafens" -> x.deafens(a, b, c);
                case "widens" -> x.widens(a);
                case "undo" -> x.undo();
                case "sort" -> x.sort(a, b);
                case "terminal" -> x.terminal(a, b);
                case "block" -> x.block(a, b);
                case "deaf" -> x.deaf(a, b);
                case "drain" -> x.drain();
                case "enough" -> x.enough(a);
                case "ahead" -> x.ahead(a, b);
                case "sees" -> x.sees(a, b);
                case "forget" -> x.forget();
                case "unseen" -> x.unseen();
                case "keep" -> x.keep(a);
                case "back" -> x.back(a);
                case "count" -> x.count(a);
                default -> throw new IllegalArgumentException(call);
            };
        }

        /** One look, as a text; some of them change the object, so each is at an object of its own. */
        String shown(int look) {
            StringBuilder all = new StringBuilder();
            if (look == 0) {
                counts(all, 0, 8);
            } else if (look == 1) {
                every(all, "terminal", make("count 0"), 8);
            } else if (look == 2) {
                every(all, "sort", make("count 1"), 8);
            } else if (look < DEAF) {
                every(all, "block", Math.min(20, make("count 7")), 4);
            } else if (look < TRIALS) {
                deafness(all, look - DEAF);
            } else if (look < LOOKS_AT_STATE) {
                trials(all);
            } else if (look == LOOKS_AT_STATE) {
                counts(all, 9, 11);
                ask(all, "unseen", "forget", "unseen");
            } else if (look < UNDO) {
                ask(all, "cell", "count 0", "count 1", "count 2", "count 3", "count 4", "count 5", "clear");
            } else if (look < IMAGE) {
                for (int i = look - UNDO; i >= 0; i--) {
                    ask(all, "undo");
                }
                state(all);
            } else {
                ask(all, "back " + (look - IMAGE));
                state(all);
                ask(all, "undo");
            }
            return all.toString();
        }

        private void state(StringBuilder all) {
            counts(all, 0, 8);
            every(all, "terminal", make("count 0"), 8);
            every(all, "sort", make("count 1"), 8);
            every(all, "block", Math.min(3, make("count 7")), 4);
        }

        private void ask(StringBuilder all, String... calls) {
            for (String call : calls) {
                all.append(make(call)).append(' ');
            }
        }

        private void counts(StringBuilder all, int first, int last) {
            for (int what = first; what <= last; what++) {
                ask(all, "count " + what);
            }
        }

        private void every(StringBuilder all, String call, int many, int last) {
            for (int i = 0; i < many; i++) {
                for (int what = 0; what <= last; what++) {
                    ask(all, call + " " + i + " " + what);
                }
            }
        }

        private void deafness(StringBuilder all, int t) {
            int last = t < make("count 0") ? 199 : -1;
            for (int step = 0; step <= last; step++) {
                ask(all, "deaf " + t + " " + step);
            }
        }

        private void trials(StringBuilder all) {
            ask(all, "drain", "enough 3", "enough 40");
            int classes = make("count 1");
            for (int c = 0; c < classes; c++) {
                ask(all, "ahead " + c + " 1", "ahead " + c + " 40");
            }
        }
    }
}
