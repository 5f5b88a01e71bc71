import java.lang.reflect.Array;
import java.lang.reflect.Field;
import java.lang.reflect.Modifier;

/** All that an object holds, as a text: nothing has changed in it if the text is the same. */
final class Inside {
    private static final int DEEPEST = 20;

    private Inside() {
    }

    static String of(Object object) {
        StringBuilder text = new StringBuilder();
        try {
            tell(object, text, 0);
        } catch (IllegalAccessException e) {
            throw new IllegalStateException(e);
        }
        return text.toString();
    }

    private static void tell(Object value, StringBuilder text, int depth) throws IllegalAccessException {
        if (depth > DEEPEST) {
            throw new IllegalStateException("too deep: " + value.getClass());
        }
        if (value == null) {
            text.append("null ");
        } else if (value.getClass().isArray()) {
            tellAll(value, text, depth);
        } else if (value instanceof Iterable<?> list) {
            for (Object part : list) {
                tell(part, text, depth + 1);
            }
        } else if (value.getClass().getName().startsWith("java.")) {
            text.append(value).append(' ');
        } else {
            tellFields(value, text, depth);
        }
    }

    private static void tellAll(Object array, StringBuilder text, int depth) throws IllegalAccessException {
        if (array instanceof int[] numbers) {
            for (int number : numbers) {
                text.append(number).append(' ');
            }
            return;
        }
        for (int i = 0; i < Array.getLength(array); i++) {
            tell(Array.get(array, i), text, depth + 1);
        }
    }

    private static void tellFields(Object object, StringBuilder text, int depth) throws IllegalAccessException {
        for (Field field : object.getClass().getDeclaredFields()) {
            if (!Modifier.isStatic(field.getModifiers())) {
                field.setAccessible(true);
                text.append(field.getName()).append(": ");
                tell(field.get(object), text, depth + 1);
            }
        }
    }
}
